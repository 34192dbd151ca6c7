/-! the model's told rings -/
set_option maxRecDepth 100000 in
theorem lowR_all : ∀ s : Nat, s < 512 → ∀ x : Nat, x < 9 → (iAnd (s : Int) (1 * 2 ^ x - 1) = 0 ↔ ∀ b, b < x → s.testBit b = false) := by decide +kernel
theorem lowR_of {s x : Nat} (hs : s < 512) (hx : x < 9) : iAnd (s : Int) (1 * 2 ^ (x : Int).toNat - 1) = 0 ↔ ∀ b, b < x → s.testBit b = false := by
  rw [Int.toNat_natCast]
  exact lowR_all s hs x hx
theorem c_mIsRing (g : Gl) (σ : St) (w : Nat → Int) (hX : MX σ w) (v : Int) (hv : inR v) : Ct g mX12_isRing 2 0 0 [vq (some 77), vi v] σ (fun r τ => r = some (vi (bI (rgOK (spR w v) = true))) ∧ MS σ τ ∧ (rgOK (spR w v) = true → gG τ 77 12 = ((spR w v).length : Int) ∧ RGr τ w 83 (spR w v) (spR w v).length)) := by
  refine Ct.of (by decide +kernel) (Nat.le_of_ble_eq_true rfl) ?_
  have hX0 := hX
  have hw := hX.2.2
  have hNs := wf_n hw
  have hlen : (digs v).length ≤ 10 := digN_len 10 v
  have no : ∀ (τ : St), spR w v = [] → MS σ τ → (fun (r : Option MV) (τ : St) => r = some (vi (bI (rgOK (spR w v) = true))) ∧ MS σ τ ∧ (rgOK (spR w v) = true → gG τ 77 12 = ((spR w v).length : Int) ∧ RGr τ w 83 (spR w v) (spR w v).length)) (some (vi 0)) τ := by
    intro τ h hF
    have hn : ¬ rgOK (spR w v) = true := by rw [h]; decide
    exact ⟨by rw [bI_f hn], hF, fun z => absurd z hn⟩
  have loop : ∀ (L : Nat), 1 ≤ L → L ≤ 8 → L = (digs v).length → ∀ (k j : Nat) (u : Int) (seen : Nat) (τ : St), MS σ τ → gG τ 77 12 = (L : Int) → j + k = L → seen < 512 → 0 ≤ u ∧ u < 2147483648 → (digN (10 - j) u).length = k → (digs v).drop j = digN (10 - j) u → okD (nS w) (digs v) 0 = okD (nS w) (digN (10 - j) u) seen → (∀ i, i < j → gG τ 83 (L - 1 - i) = (((digs v).getD i 0 - 1).toNat : Int) ∧ ((digs v).getD i 0 - 1).toNat < nS w) → (∀ b, seen.testBit b = true ↔ ∃ i, i < j ∧ ((digs v).getD i 0 - 1).toNat = b) → ∀ i5 : Int, i5 = (k : Int) - 1 →
      V g mX12_isRing (rmD 2 0 0) (QM g 0 0 (fun r τ => r = some (vi (bI (rgOK (spR w v) = true))) ∧ MS σ τ ∧ (rgOK (spR w v) = true → gG τ 77 12 = ((spR w v).length : Int) ∧ RGr τ w 83 (spR w v) (spR w v).length))) 49 [some (vq (some 77)), none, none, some (vi u), some (vi (seen : Int)), some (vi i5), none] [] 0 0 τ := by
    intro L hL1 hL2 hLe k
    induction k with
    | zero =>
      intro j u seen τ hF h12 hj hs hu hk hd hok hf hbits i5 hi5
      have hnil : digN (10 - j) u = [] := List.length_eq_zero_iff.mp hk
      have hjL : j = L := by omega
      rw [hnil] at hok
      have hsp : spR w v = ((digs v).map fun d => (d - 1).toNat).reverse := if_pos ⟨by omega, by omega, hok⟩
      have hspl : (spR w v).length = L := by rw [hsp, List.length_reverse, List.length_map]; omega
      have hget : ∀ i, i < L → (spR w v).getD i 0 = ((digs v).getD (L - 1 - i) 0 - 1).toNat := fun i hi => by
        rw [hsp, List.getD_eq_getElem?_getD, List.getElem?_reverse (by rw [List.length_map]; omega), List.length_map, List.getElem?_map, ← hLe, List.getD_eq_getElem?_getD, List.getElem?_eq_getElem (by omega)]
        rfl
      have hrow : RGr τ w 83 (spR w v) (spR w v).length := fun i hi => by
        rw [hspl] at hi
        have q := hf (L - 1 - i) (by omega)
        rw [show L - 1 - (L - 1 - i) = i by omega] at q
        rw [hget i hi]
        exact q
      have hr0 := hrow 0 (by omega)
      have hiff : (∀ b, b < (spR w v).getD 0 0 → seen.testBit b = false) ↔ rgOK (spR w v) = true := by
        rw [rgOK_iff]
        constructor
        · intro h
          refine ⟨by omega, fun i hi => ?_⟩
          rcases Nat.lt_or_ge ((spR w v).getD i 0) ((spR w v).getD 0 0) with z | z
          · have q1 := h _ z
            have q2 := (hbits ((spR w v).getD i 0)).mpr ⟨L - 1 - i, by omega, (hget i (by omega)).symm⟩
            rw [q1] at q2
            cases q2
          · exact z
        · intro h b hb
          cases q : seen.testBit b with
          | false => rfl
          | true =>
            obtain ⟨i, hi, he⟩ := (hbits b).mp q
            have q2 := h.2 (L - 1 - i) (by omega)
            rw [hget (L - 1 - i) (by omega), show L - 1 - (L - 1 - i) = i by omega, he] at q2
            omega
      have hlow := lowR_of hs (show (spR w v).getD 0 0 < 9 by omega)
      have hS := (hF.mx hX0).1
      have iab : inR (iAnd (seen : Int) (1 * 2 ^ (((spR w v).getD 0 0 : Nat) : Int).toNat - 1)) := by
        unfold iAnd
        have h1 := Int32.le_toInt (iI (seen : Int) &&& iI (1 * 2 ^ (((spR w v).getD 0 0 : Nat) : Int).toNat - 1))
        have h2 := Int32.toInt_lt (iI (seen : Int) &&& iI (1 * 2 ^ (((spR w v).getD 0 0 : Nat) : Int).toNat - 1))
        constructor <;> omega
      refine V_iload dX12_isRing_49 rfl ?_
      refine V_iflt (tgt := 113) dX12_isRing_51 (by decide) (by omega) (fun br51 => ?_) (fun br51 => ?_)
      · refine V_iload dX12_isRing_113 rfl ?_
        refine V_iconst dX12_isRing_115 ?_
        refine V_aload_n dX12_isRing_116 rfl ?_
        refine V_getfr dX12_isRing_117 sf_RX12_27 (by decide) (sh hS rfl) (rf hS rfl) ?_
        refine V_iconst dX12_isRing_120 ?_
        refine V_iald dX12_isRing_121 (sh hS rfl) (by omega) ?_
        refine V_val (show _ = (((spR w v).getD 0 0 : Nat) : Int) from hr0.1) ?_
        refine V_ishl dX12_isRing_122 (by omega) ?_
        refine V_iconst dX12_isRing_123 ?_
        refine V_isub dX12_isRing_124 ?_
        refine V_iand dX12_isRing_125 ?_
        refine V_ifne (tgt := 133) dX12_isRing_126 (by decide) (by exact iab) (fun br126 => ?_) (fun br126 => ?_)
        · refine V_iconst dX12_isRing_133 ?_
          refine V_zret dX12_isRing_134 rfl (Nat.le_refl _) (Nat.le_refl _) (by first | omega | exact bI_01 _) ?_
          first
          | exact ⟨by rw [bI_t (hiff.mp (hlow.mp br126))], hF, fun _ => ⟨by rw [hspl]; exact h12, hrow⟩⟩
          | exact ⟨by rw [bI_f (fun z => br126 (hlow.mpr (hiff.mpr z)))], hF, fun z => absurd z (fun z => br126 (hlow.mpr (hiff.mpr z)))⟩
        · refine V_iconst dX12_isRing_129 ?_
          refine V_goto (tgt := 134) dX12_isRing_130 (by decide) ?_
          refine V_zret dX12_isRing_134 rfl (Nat.le_refl _) (Nat.le_refl _) (by first | omega | exact bI_01 _) ?_
          first
          | exact ⟨by rw [bI_t (hiff.mp (hlow.mp br126))], hF, fun _ => ⟨by rw [hspl]; exact h12, hrow⟩⟩
          | exact ⟨by rw [bI_f (fun z => br126 (hlow.mpr (hiff.mpr z)))], hF, fun z => absurd z (fun z => br126 (hlow.mpr (hiff.mpr z)))⟩
      · omega
    | succ k ih =>
      intro j u seen τ hF h12 hj hs hu hk hd hok hf hbits i5 hi5
      have h10 : ∃ q, 10 - j = q + 1 := by
        rcases Nat.eq_zero_or_pos (10 - j) with h | h
        · rw [h] at hk; cases hk
        · exact ⟨10 - j - 1, by omega⟩
      obtain ⟨q, hq⟩ := h10
      have hpos : 0 < u := by
        rcases Int.lt_or_le 0 u with h | h
        · exact h
        · rw [hq, show digN (q + 1) u = [] from if_neg (by omega)] at hk; cases hk
      rw [hq, digN_m hpos] at hk hd hok
      have hdj : (digs v).getD j 0 = u % 10 := by
        have : ((digs v).drop j)[0]? = some (u % 10) := by rw [hd]; rfl
        rw [List.getElem?_drop, Nat.add_zero] at this
        rw [List.getD_eq_getElem?_getD, this]; rfl
      have bad : ¬ (0 ≤ u % 10 - 1 ∧ u % 10 - 1 < (nS w : Int) ∧ ¬ seen.testBit (u % 10 - 1).toNat = true) → spR w v = [] := by
        intro h
        refine if_neg (fun z => ?_)
        rw [hok] at z
        have z3 := z.2.2
        unfold okD at z3
        simp only [Bool.and_eq_true, decide_eq_true_iff, Bool.not_eq_true'] at z3
        exact h ⟨z3.1, z3.2.1, by rw [z3.2.2.1]; decide⟩
      have hbt : 0 ≤ u % 10 - 1 → ((seen : Int) / 2 ^ (u % 10 - 1).toNat % 2 = 1 ↔ seen.testBit (u % 10 - 1).toNat = true) := fun h => by
        have := bt_nat seen (u % 10 - 1).toNat
        unfold bt at this
        rwa [Int.toNat_natCast] at this
      have hXt := hF.mx hX0
      have hS := hXt.1
      refine V_iload dX12_isRing_49 rfl ?_
      refine V_iflt (tgt := 113) dX12_isRing_51 (by decide) (by omega) (fun br51 => ?_) (fun br51 => ?_)
      · omega
      · refine V_iload_n dX12_isRing_54 rfl ?_
        refine V_bipush dX12_isRing_55 (by decide) ?_
        refine V_irem dX12_isRing_57 (by omega) ?_
        refine V_iconst dX12_isRing_58 ?_
        refine V_isub dX12_isRing_59 ?_
        refine V_istore dX12_isRing_60 (by decide) rfl ?_
        refine V_aload_n dX12_isRing_62 rfl ?_
        refine V_iload dX12_isRing_63 rfl ?_
        refine V_callV dX12_isRing_65 (c_mHasStave g _ w hS hXt.2.1 hw (u % 10 - 1) (by omega)) sv_RX12_96 (sh hS rfl) rfl ⟨⟨by decide, by decide⟩, ⟨by decide, by decide⟩⟩ (Nat.le_of_ble_eq_true rfl) (fun r65 s65 p65 => ?_)
        obtain ⟨rfl, rfl⟩ := p65
        refine V_ifeqB (tgt := 82) dX12_isRing_68 (by decide) (fun br68 => ?_) (fun br68 => ?_)
        · refine V_iconst dX12_isRing_82 ?_
          refine V_zret dX12_isRing_83 rfl (Nat.le_refl _) (Nat.le_refl _) (by first | omega | exact bI_01 _) ?_
          first
          | exact no τ (bad (fun z => br68 (by omega))) hF
          | exact no τ (bad (fun z => z.2.2 ((hbt (by omega)).mp br79))) hF
        · refine V_iload dX12_isRing_71 rfl ?_
          refine V_iload dX12_isRing_73 rfl ?_
          refine V_ishr dX12_isRing_75 (by omega) ?_
          refine V_iconst dX12_isRing_76 ?_
          refine V_iand1 dX12_isRing_77 ?_
          refine V_iconst dX12_isRing_78 ?_
          refine V_icmpne (tgt := 84) dX12_isRing_79 (by decide) (by omega) (by omega) (fun br79 => ?_) (fun br79 => ?_)
          · have hgood : 0 ≤ u % 10 - 1 ∧ u % 10 - 1 < (nS w : Int) ∧ ¬ seen.testBit (u % 10 - 1).toNat = true := ⟨by omega, by omega, fun z => br79 ((hbt (by omega)).mpr z)⟩
            obtain ⟨dg1, hdg⟩ : ∃ dg1 : Nat, (dg1 : Int) = u % 10 - 1 := ⟨(u % 10 - 1).toNat, by omega⟩
            have hdg2 : (u % 10 - 1).toNat = dg1 := by omega
            have hI := insN_all seen (by omega) dg1 (by omega)
            refine V_iload dX12_isRing_84 rfl ?_
            refine V_iconst dX12_isRing_86 ?_
            refine V_iload dX12_isRing_87 rfl ?_
            refine V_ishl dX12_isRing_89 (by omega) ?_
            refine V_ior dX12_isRing_90 ?_
            refine V_val (show _ = ((seen ||| 2 ^ dg1 : Nat) : Int) by rw [ins_of (by omega) (by omega) (by omega) (by omega), ← hdg, hI.1]) ?_
            refine V_istore dX12_isRing_91 (by decide) rfl ?_
            refine V_aload_n dX12_isRing_93 rfl ?_
            refine V_getfr dX12_isRing_94 sf_RX12_27 (by decide) (sh hS rfl) (rf hS rfl) ?_
            refine V_iload dX12_isRing_97 rfl ?_
            refine V_iload dX12_isRing_99 rfl ?_
            refine V_iast dX12_isRing_101 (sh hS rfl) (by omega) ?_
            refine V_iload_n dX12_isRing_102 rfl ?_
            refine V_bipush dX12_isRing_103 (by decide) ?_
            refine V_idiv dX12_isRing_105 (by omega) ?_
            refine V_istore_n dX12_isRing_106 (by decide) rfl ?_
            refine V_iinc dX12_isRing_107 rfl (by decide) rfl ?_
            refine V_goto (tgt := 49) dX12_isRing_110 (by decide) ?_
            refine V_mask [true, false, false, true, true, true, false] ?_
            have e1 : 10 - (j + 1) = q := by omega
            have hor : seen ||| 2 ^ dg1 < 512 := Nat.or_lt_two_pow (n := 9) hs (Nat.pow_lt_pow_right (by decide) (by omega))
            refine ih (j + 1) (u / 10) (seen ||| 2 ^ dg1) _ (hF.on _ _ (by decide)) ((gG_ne _ _ (Or.inl (by decide))).trans h12) (by omega) hor (by omega) (by rw [e1]; simp only [List.length_cons] at hk; omega) (by rw [e1, ← List.drop_drop, hd]; rfl) ?_ (fun i hi => ?_) (fun b => ?_) _ (by omega)
            · rw [hok, e1]
              show (decide (0 ≤ u % 10 - 1) && (decide (u % 10 - 1 < (nS w : Int)) && (!(seen.testBit (u % 10 - 1).toNat) && okD (nS w) (digN q (u / 10)) (seen ||| 2 ^ (u % 10 - 1).toNat)))) = _
              rw [hdg2] at hgood ⊢
              rw [decide_eq_true hgood.1, decide_eq_true hgood.2.1, Bool.not_eq_true (seen.testBit dg1) |>.mp hgood.2.2]
              rfl
            · by_cases e : i = j
              · subst e
                rw [show i5.toNat = L - 1 - i by omega, hdj]
                exact ⟨(gG_is _ _ _ _).trans (by omega), by omega⟩
              · refine ⟨(gG_ne _ _ (Or.inr (by omega))).trans (hf i (by omega)).1, (hf i (by omega)).2⟩
            · rw [Nat.testBit_or, Bool.or_eq_true, Nat.testBit_two_pow, decide_eq_true_iff, hbits b]
              constructor
              · intro h
                rcases h with ⟨i, h1, h2⟩ | h
                · exact ⟨i, by omega, h2⟩
                · exact ⟨j, by omega, by rw [hdj]; omega⟩
              · intro h
                obtain ⟨i, h1, h2⟩ := h
                by_cases e : i = j
                · subst e
                  rw [hdj] at h2
                  exact Or.inr (by omega)
                · exact Or.inl ⟨i, by omega, h2⟩
          · refine V_iconst dX12_isRing_82 ?_
            refine V_zret dX12_isRing_83 rfl (Nat.le_refl _) (Nat.le_refl _) (by first | omega | exact bI_01 _) ?_
            first
            | exact no τ (bad (fun z => br68 (by omega))) hF
            | exact no τ (bad (fun z => z.2.2 ((hbt (by omega)).mp br79))) hF
  have fin26 : 1 ≤ v → V g mX12_isRing (rmD 2 0 0) (QM g 0 0 (fun r τ => r = some (vi (bI (rgOK (spR w v) = true))) ∧ MS σ τ ∧ (rgOK (spR w v) = true → gG τ 77 12 = ((spR w v).length : Int) ∧ RGr τ w 83 (spR w v) (spR w v).length))) 26 [some (vq (some 77)), some (vi v), some (vi ((digs v).length : Int)), none, none, none, none] [] 0 0 σ := by
    intro h1
    have hS := hX.1
    have hpos : 1 ≤ (digs v).length := by
      have e : digs v = v % 10 :: digN 9 (v / 10) := digN_m (by omega)
      rw [e, List.length_cons]; omega
    refine V_iload_n dX12_isRing_26 rfl ?_
    refine V_bipush dX12_isRing_27 (by decide) ?_
    refine V_icmple (tgt := 34) dX12_isRing_29 (by decide) (by omega) (by omega) (fun br29 => ?_) (fun br29 => ?_)
    · refine V_aload_n dX12_isRing_34 rfl ?_
      refine V_iload_n dX12_isRing_35 rfl ?_
      refine V_puti dX12_isRing_36 (sp_RX12_124 _) rfl (sh hS rfl) ?_
      refine V_iload_n dX12_isRing_39 rfl ?_
      refine V_istore_n dX12_isRing_40 (by decide) rfl ?_
      refine V_iconst dX12_isRing_41 ?_
      refine V_istore dX12_isRing_42 (by decide) rfl ?_
      refine V_iload_n dX12_isRing_44 rfl ?_
      refine V_iconst dX12_isRing_45 ?_
      refine V_isub dX12_isRing_46 ?_
      refine V_istore dX12_isRing_47 (by decide) rfl ?_
      refine V_mask [true, false, false, true, true, true, false] ?_
      exact loop (digs v).length hpos (by omega) rfl (digs v).length 0 v 0 _ ((MS.rf σ).on77 _ (by decide)) (gG_is _ _ _ _) (by omega) (by decide) (by omega) rfl rfl rfl (fun i hi => absurd hi (Nat.not_lt_zero i)) (fun b => ⟨fun z => (by rw [Nat.zero_testBit] at z; cases z), fun ⟨i, z, _⟩ => absurd z (Nat.not_lt_zero i)⟩) _ rfl
    · refine V_iconst dX12_isRing_32 ?_
      refine V_zret dX12_isRing_33 rfl (Nat.le_refl _) (Nat.le_refl _) (by first | omega | exact bI_01 _) ?_
      exact no σ (if_neg (fun z => by omega)) (MS.rf σ)
  have count : 1 ≤ v → ∀ (m : Nat) (u many : Int), 0 ≤ u ∧ u < 10 ^ m → u ≤ 2147483647 → many + (digN m u).length = (digs v).length → V g mX12_isRing (rmD 2 0 0) (QM g 0 0 (fun r τ => r = some (vi (bI (rgOK (spR w v) = true))) ∧ MS σ τ ∧ (rgOK (spR w v) = true → gG τ 77 12 = ((spR w v).length : Int) ∧ RGr τ w 83 (spR w v) (spR w v).length))) 11 [some (vq (some 77)), some (vi v), some (vi many), some (vi u), none, none, none] [] 0 0 σ := by
    intro h1 m
    induction m with
    | zero =>
      intro u many hu hu2 hm
      have e0 : (10 : Int) ^ 0 = 1 := rfl
      have hmany : many = ((digs v).length : Int) := by rw [← hm]; show many = many + ((0 : Nat) : Int); omega
      refine V_iload_n dX12_isRing_11 rfl ?_
      refine V_ifle (tgt := 26) dX12_isRing_12 (by decide) (by omega) (fun br12 => ?_) (fun br12 => ?_)
      · refine V_mask [true, true, true, false, false, false, false] ?_
        rw [hmany]
        exact fin26 h1
      · omega
    | succ m ih =>
      intro u many hu hu2 hm
      have e1 : (10 : Int) ^ (m + 1) = 10 ^ m * 10 := Int.pow_succ 10 m
      by_cases h0 : 0 < u
      · have e : digN (m + 1) u = u % 10 :: digN m (u / 10) := if_pos h0
        rw [e, List.length_cons] at hm
        refine V_iload_n dX12_isRing_11 rfl ?_
        refine V_ifle (tgt := 26) dX12_isRing_12 (by decide) (by omega) (fun br12 => ?_) (fun br12 => ?_)
        · omega
        · refine V_iload_n dX12_isRing_15 rfl ?_
          refine V_bipush dX12_isRing_16 (by decide) ?_
          refine V_idiv dX12_isRing_18 (by omega) ?_
          refine V_istore_n dX12_isRing_19 (by decide) rfl ?_
          refine V_iinc dX12_isRing_20 rfl (by decide) rfl ?_
          refine V_goto (tgt := 11) dX12_isRing_23 (by decide) ?_
          refine V_mask [true, true, true, true, false, false, false] ?_
          exact ih (u / 10) (many + 1) (by omega) (by omega) (by omega)
      · have e : digN (m + 1) u = [] := if_neg h0
        have hmany : many = ((digs v).length : Int) := by rw [← hm, e]; show many = many + ((0 : Nat) : Int); omega
        refine V_iload_n dX12_isRing_11 rfl ?_
        refine V_ifle (tgt := 26) dX12_isRing_12 (by decide) (by omega) (fun br12 => ?_) (fun br12 => ?_)
        · refine V_mask [true, true, true, false, false, false, false] ?_
          rw [hmany]
          exact fin26 h1
        · omega
  refine V_iload_n dX12_isRing_0 rfl ?_
  refine V_iconst dX12_isRing_1 ?_
  refine V_icmpge (tgt := 7) dX12_isRing_2 (by decide) (by omega) (by omega) (fun br2 => ?_) (fun br2 => ?_)
  · refine V_iconst dX12_isRing_7 ?_
    refine V_istore_n dX12_isRing_8 (by decide) rfl ?_
    refine V_iload_n dX12_isRing_9 rfl ?_
    refine V_istore_n dX12_isRing_10 (by decide) rfl ?_
    refine V_mask [true, true, true, true, false, false, false] ?_
    have e : (10 : Int) ^ 10 = 10000000000 := by decide
    exact count (by omega) 10 v 0 ⟨by omega, by omega⟩ (by omega) (by show 0 + _ = _; rw [Int.zero_add]; rfl)
  · refine V_iconst dX12_isRing_5 ?_
    refine V_zret dX12_isRing_6 rfl (Nat.le_refl _) (Nat.le_refl _) (by first | omega | exact bI_01 _) ?_
    exact no σ (if_neg (fun z => by
      have e : digs v = [] := if_neg (by omega)
      rw [e] at z
      exact absurd z.1 (by decide))) (MS.rf σ)