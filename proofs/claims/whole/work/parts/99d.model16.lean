/-! the model's hoops settle -/
theorem c_mGirthAt (g : Gl) (σ : St) (w : Nat → Int) (hX : MX σ w) (h : Int) (hh : 0 ≤ h ∧ h ≤ 8) : Ct g mX12_girthAt 1 0 0 [vq (some 77), vi h] σ (rP (vi (gir w h)) σ) := by
  refine Ct.of (by decide +kernel) (Nat.le_of_ble_eq_true rfl) ?_
  obtain ⟨hS, h78, hw⟩ := hX
  have m := gir_m hw hh
  have w0 := hw.1
  refine V_iconst dX12_girthAt_0 ?_
  refine V_aload_n dX12_girthAt_1 rfl ?_
  refine V_getfr dX12_girthAt_2 sf_RX12_9 (by decide) (sh hS rfl) (rf hS rfl) ?_
  refine V_iconst dX12_girthAt_5 ?_
  refine V_iald dX12_girthAt_6 (sh hS rfl) (by omega) ?_
  refine V_val (mw h78 (k := 0) rfl) ?_
  refine V_aload_n dX12_girthAt_7 rfl ?_
  refine V_getfr dX12_girthAt_8 sf_RX12_9 (by decide) (sh hS rfl) (rf hS rfl) ?_
  refine V_iconst dX12_girthAt_11 ?_
  refine V_iald dX12_girthAt_12 (sh hS rfl) (by omega) ?_
  refine V_val (mw h78 (k := 2) rfl) ?_
  refine V_iload_n dX12_girthAt_13 rfl ?_
  refine V_iconst dX12_girthAt_14 ?_
  refine V_isub dX12_girthAt_15 ?_
  refine V_abs dX12_girthAt_16 sm_RX12_121 (by decide) (by decide) (Nat.le_of_ble_eq_true rfl) (by omega) ?_
  refine V_imul dX12_girthAt_19 ?_
  refine V_isub dX12_girthAt_20 ?_
  refine V_max dX12_girthAt_21 sm_RX12_83 (by decide) (by decide) (Nat.le_of_ble_eq_true rfl) (by omega) (by omega) ?_
  refine V_iret dX12_girthAt_24 rfl (Nat.le_refl _) (Nat.le_refl _) ?_
  exact rP_i rfl rfl
theorem c_mGirth (g : Gl) (σ : St) (w : Nat → Int) (hX : MX σ w) (h : Int) (hh : inR h) : Ct g mX12_girth 2 0 0 [vq (some 77), vi h] σ (rP (vi (girthA w h)) σ) := by
  refine Ct.of (by decide +kernel) (Nat.le_of_ble_eq_true rfl) ?_
  have hX0 := hX
  obtain ⟨hS, h78, hw⟩ := hX
  refine V_iload_n dX12_girth_0 rfl ?_
  refine V_iconst dX12_girth_1 ?_
  refine V_bipush dX12_girth_2 (by decide) ?_
  refine V_callS dX12_girth_4 (c_within g _ _ _ _ (by omega) (by omega) (by omega)) ss_RX12_58 rfl ⟨⟨by decide, by decide⟩, ⟨by decide, by decide⟩⟩ (Nat.le_of_ble_eq_true rfl) (fun r4 s4 p4 => ?_)
  obtain ⟨rfl, rfl⟩ := p4
  refine V_ifeqB (tgt := 18) dX12_girth_7 (by decide) (fun br7 => ?_) (fun br7 => ?_)
  · refine V_iconst dX12_girth_18 ?_
    refine V_iret dX12_girth_19 rfl (Nat.le_refl _) (Nat.le_refl _) ?_
    first | exact rP_i (if_pos br7).symm rfl | exact rP_i (if_neg br7).symm rfl
  · refine V_aload_n dX12_girth_10 rfl ?_
    refine V_iload_n dX12_girth_11 rfl ?_
    refine V_callV dX12_girth_12 (c_mGirthAt g _ w hX0 h br7) sv_RX12_163 (sh hS rfl) rfl ⟨⟨by decide, by decide⟩, ⟨by decide, by decide⟩⟩ (Nat.le_of_ble_eq_true rfl) (fun r12 s12 p12 => ?_)
    obtain ⟨rfl, rfl⟩ := p12
    refine V_goto (tgt := 19) dX12_girth_15 (by decide) ?_
    refine V_iret dX12_girth_19 rfl (Nat.le_refl _) (Nat.le_refl _) ?_
    first | exact rP_i (if_pos br7).symm rfl | exact rP_i (if_neg br7).symm rfl
theorem c_mHasHoop (g : Gl) (σ : St) (w : Nat → Int) (hX : MX σ w) (s : Int) (h1 : inR s) : Ct g mX12_hasHoop 1 0 0 [vq (some 77), vi s] σ (rP (vi (bI (0 ≤ s ∧ s < w 5))) σ) := by
  refine Ct.of (by decide +kernel) (Nat.le_of_ble_eq_true rfl) ?_
  obtain ⟨hS, h78, hw⟩ := hX
  have b5 := hw.2.2.2.2.2.1
  refine V_iload_n dX12_hasHoop_0 rfl ?_
  refine V_iconst dX12_hasHoop_1 ?_
  refine V_aload_n dX12_hasHoop_2 rfl ?_
  refine V_getfr dX12_hasHoop_3 sf_RX12_9 (by decide) (sh hS rfl) (rf hS rfl) ?_
  refine V_iconst dX12_hasHoop_6 ?_
  refine V_iald dX12_hasHoop_7 (sh hS rfl) (by omega) ?_
  refine V_val (mw h78 (k := 5) rfl) ?_
  refine V_iconst dX12_hasHoop_8 ?_
  refine V_isub dX12_hasHoop_9 ?_
  refine V_callS dX12_hasHoop_10 (c_within g _ _ _ _ (by omega) (by omega) (by omega)) ss_RX12_58 rfl ⟨⟨by decide, by decide⟩, ⟨by decide, by decide⟩⟩ (Nat.le_of_ble_eq_true rfl) (fun r10 s10 p10 => ?_)
  obtain ⟨rfl, rfl⟩ := p10
  refine V_zret dX12_hasHoop_13 rfl (Nat.le_refl _) (Nat.le_refl _) (by first | omega | exact bI_01 _) ?_
  exact ⟨congrArg (fun z => some (vi z)) (bI_eq (by omega)), rfl⟩
/-- the first depth from k on at which a hoop is tight; 5 if there is none -/
def qF (w : Nat → Int) (size : Int) : Nat → Int → Int
  | 0, _ => 5
  | m + 1, k => if size ≤ gir w k then k else qF w size m (k + 1)
theorem qF_b {w : Nat → Int} {size : Int} : ∀ (m : Nat) (k : Int), k + m = 5 → k ≤ qF w size m k ∧ qF w size m k ≤ 5
  | 0, k, h => (show k ≤ 5 ∧ (5 : Int) ≤ 5 by omega)
  | m + 1, k, h => by
    have := qF_b (w := w) (size := size) m (k + 1) (by omega)
    unfold qF
    split <;> omega
theorem rstF_q {w : Nat → Int} {size f : Int} : ∀ (m : Nat) (k : Int), k + m = 5 → k ≤ f → f ≤ 5 → rstF w size f m k = if min (qF w size m k) f = 5 then -5 else min (qF w size m k) f
  | 0, k, h, h2, h3 => by
    show (-5 : Int) = if min 5 f = 5 then -5 else min 5 f
    rw [if_pos (by omega)]
  | m + 1, k, h, h2, h3 => by
    have qb := qF_b (w := w) (size := size) m (k + 1) (by omega)
    unfold rstF qF
    by_cases c1 : k = f
    · rw [if_pos (Or.inl c1)]
      split <;> (rw [if_neg (by omega)]; omega)
    · by_cases c2 : size ≤ gir w k
      · rw [if_pos (Or.inr c2), if_pos c2, if_neg (by omega)]; omega
      · rw [if_neg (fun z => by rcases z with z | z <;> contradiction), if_neg c2]
        exact rstF_q m (k + 1) (by omega) (by omega) h3
theorem gir_hgt (w : Nat → Int) (k s : Int) : gir w (hgt k s) = gir w k := by
  unfold gir hgt
  have e : iAbs ((if s = 0 then k else 8 - k) - 4) = iAbs (k - 4) := by
    unfold iAbs
    split <;> (repeat' split) <;> omega
  rw [e]
/-- where a hoop rests -/
def rsR (w : Nat → Int) (n : Nat) : Int := if dep w n = -5 then -5 else hgt (dep w n) (w (64 + n))
def RS (τ : St) (w : Nat → Int) (k : Nat) : Prop := ∀ j, j < k → gG τ 85 j = rsR w j
theorem hgt_hgt {k s : Int} (h : s = 0 ∨ s = 1) : hgt (hgt k s) s = k := by
  unfold hgt
  split <;> omega
theorem c_mSettles (g : Gl) (σ : St) (w : Nat → Int) (hX : MX σ w) : Ct g mX12_settles 2 0 0 [vq (some 77)] σ (fun r τ => r = none ∧ MS σ τ ∧ RS τ w (nH w) ∧ ∀ j, gG τ 77 j = gG σ 77 j) := by
  refine Ct.of (by decide +kernel) (Nat.le_of_ble_eq_true rfl) ?_
  have hX0 := hX
  have hw := hX.2.2
  have b5 := hw.2.2.2.2.2.1
  have hnH : (nH w : Int) = w 5 := by unfold nH; omega
  have outer : ∀ (m n : Nat) (τ : St), n + m = nH w → MS σ τ → RS τ w n → (∀ j, gG τ 77 j = gG σ 77 j) →
      V g mX12_settles (rmD 2 0 0) (QM g 0 0 (fun r τ => r = none ∧ MS σ τ ∧ RS τ w (nH w) ∧ ∀ j, gG τ 77 j = gG σ 77 j)) 2 [some (vq (some 77)), some (vi (n : Int)), none, none] [] 0 0 τ := by
    intro m
    induction m with
    | zero =>
      intro n τ hn hF hR h77
      have e : n = nH w := by omega
      subst e
      have hXt := hF.mx hX0
      obtain ⟨hS, h78, -⟩ := hXt
      refine V_iload_n dX12_settles_2 rfl ?_
      refine V_aload_n dX12_settles_3 rfl ?_
      refine V_getfr dX12_settles_4 sf_RX12_9 (by decide) (sh hS rfl) (rf hS rfl) ?_
      refine V_iconst dX12_settles_7 ?_
      refine V_iald dX12_settles_8 (sh hS rfl) (by omega) ?_
      refine V_val (mw h78 (k := 5) rfl) ?_
      refine V_icmpge (tgt := 186) dX12_settles_9 (by decide) (by omega) (by omega) (fun br9 => ?_) (fun br9 => ?_)
      · refine V_vret dX12_settles_186 rfl (Nat.le_refl _) (Nat.le_refl _) ?_
        exact ⟨rfl, hF, hR, h77⟩
      · omega
    | succ m ih =>
      intro n τ hn hF hR h77
      have hXt := hF.mx hX0
      obtain ⟨hS, h78, -⟩ := id hXt
      have hk := hw.h (i := n) (by omega)
      have hdp := dep_is w n
      have hfb := far_b (w := w) (side := w (64 + n)) n (fun j _ => dep_b w j)
      have hq0 := qF_b (w := w) (size := w (58 + n)) 5 0 rfl
      have hrq := rstF_q (w := w) (size := w (58 + n)) (f := far w (w (64 + n)) (dep w) n) 5 0 rfl hfb.1 hfb.2
      have hdep : dep w n = if min (qF w (w (58 + n)) 5 0) (far w (w (64 + n)) (dep w) n) = 5 then -5 else min (qF w (w (58 + n)) 5 0) (far w (w (64 + n)) (dep w) n) := by rw [hdp]; exact hrq
      have inner : ∀ (d j : Nat), j + d = n → V g mX12_settles (rmD 2 0 0) (QM g 0 0 (fun r τ => r = none ∧ MS σ τ ∧ RS τ w (nH w) ∧ ∀ j, gG τ 77 j = gG σ 77 j)) 63 [some (vq (some 77)), some (vi (n : Int)), some (vi (min (qF w (w (58 + n)) 5 0) (far w (w (64 + n)) (dep w) j))), some (vi (j : Int))] [] 0 0 τ := by
        intro d
        induction d with
        | zero =>
          intro j hj
          have e : j = n := by omega
          subst e
          refine V_iload_n dX12_settles_63 rfl ?_
          refine V_iload_n dX12_settles_64 rfl ?_
          refine V_icmpge (tgt := 144) dX12_settles_65 (by decide) (by omega) (by omega) (fun br65 => ?_) (fun br65 => ?_)
          · refine V_aload_n dX12_settles_144 rfl ?_
            refine V_getfr dX12_settles_145 sf_RX12_33 (by decide) (sh hS rfl) (rf hS rfl) ?_
            refine V_iload_n dX12_settles_148 rfl ?_
            refine V_iload_n dX12_settles_149 rfl ?_
            refine V_iconst dX12_settles_150 ?_
            refine V_icmpne (tgt := 159) dX12_settles_151 (by decide) (by omega) (by omega) (fun br151 => ?_) (fun br151 => ?_)
            · refine V_aload_n dX12_settles_159 rfl ?_
              refine V_getfr dX12_settles_160 sf_RX12_9 (by decide) (sh hS rfl) (rf hS rfl) ?_
              refine V_bipush dX12_settles_163 (by decide) ?_
              refine V_iload_n dX12_settles_165 rfl ?_
              refine V_iadd dX12_settles_166 ?_
              refine V_iald dX12_settles_167 (sh hS rfl) (by omega) ?_
              refine V_val (mw h78 (k := 64 + j) (by omega)) ?_
              refine V_ifne (tgt := 175) dX12_settles_168 (by decide) (by omega) (fun br168 => ?_) (fun br168 => ?_)
              · refine V_bipush dX12_settles_175 (by decide) ?_
                refine V_iload_n dX12_settles_177 rfl ?_
                refine V_isub dX12_settles_178 ?_
                refine V_iast dX12_settles_179 (sh hS rfl) (by omega) ?_
                refine V_iinc dX12_settles_180 rfl (by decide) rfl ?_
                refine V_goto (tgt := 2) dX12_settles_183 (by decide) ?_
                refine V_mask [true, true, false, false] ?_
                have hv : ∀ v, v = rsR w j → V g mX12_settles (rmD 2 0 0) (QM g 0 0 (fun r τ => r = none ∧ MS σ τ ∧ RS τ w (nH w) ∧ ∀ j, gG τ 77 j = gG σ 77 j)) 2 [some (vq (some 77)), some (vi ((j : Int) + 1)), none, none] [] 0 0 (setG τ 85 j v) := fun v q => ih (j + 1) _ (by omega) (hF.on _ _ (by decide)) (fun i hi => by
                  by_cases z : i = j
                  · rw [z, q]; exact gG_is _ _ _ _
                  · exact (gG_ne _ _ (Or.inr z)).trans (hR i (by omega))) (fun i => (gG_ne _ _ (Or.inl (by decide))).trans (h77 i))
                refine hv _ ?_
                unfold rsR hgt
                first
                  | rw [if_pos (by rw [hdep, if_pos (by omega)])]
                  | (rw [if_neg (by rw [hdep, if_neg (by omega)]; omega), if_pos (by omega), hdep, if_neg (by omega)])
                  | (rw [if_neg (by rw [hdep, if_neg (by omega)]; omega), if_neg (by omega), hdep, if_neg (by omega)])
              · refine V_iload_n dX12_settles_171 rfl ?_
                refine V_goto (tgt := 179) dX12_settles_172 (by decide) ?_
                refine V_iast dX12_settles_179 (sh hS rfl) (by omega) ?_
                refine V_iinc dX12_settles_180 rfl (by decide) rfl ?_
                refine V_goto (tgt := 2) dX12_settles_183 (by decide) ?_
                refine V_mask [true, true, false, false] ?_
                have hv : ∀ v, v = rsR w j → V g mX12_settles (rmD 2 0 0) (QM g 0 0 (fun r τ => r = none ∧ MS σ τ ∧ RS τ w (nH w) ∧ ∀ j, gG τ 77 j = gG σ 77 j)) 2 [some (vq (some 77)), some (vi ((j : Int) + 1)), none, none] [] 0 0 (setG τ 85 j v) := fun v q => ih (j + 1) _ (by omega) (hF.on _ _ (by decide)) (fun i hi => by
                  by_cases z : i = j
                  · rw [z, q]; exact gG_is _ _ _ _
                  · exact (gG_ne _ _ (Or.inr z)).trans (hR i (by omega))) (fun i => (gG_ne _ _ (Or.inl (by decide))).trans (h77 i))
                refine hv _ ?_
                unfold rsR hgt
                first
                  | rw [if_pos (by rw [hdep, if_pos (by omega)])]
                  | (rw [if_neg (by rw [hdep, if_neg (by omega)]; omega), if_pos (by omega), hdep, if_neg (by omega)])
                  | (rw [if_neg (by rw [hdep, if_neg (by omega)]; omega), if_neg (by omega), hdep, if_neg (by omega)])
            · refine V_bipush dX12_settles_154 (by decide) ?_
              refine V_goto (tgt := 179) dX12_settles_156 (by decide) ?_
              refine V_iast dX12_settles_179 (sh hS rfl) (by omega) ?_
              refine V_iinc dX12_settles_180 rfl (by decide) rfl ?_
              refine V_goto (tgt := 2) dX12_settles_183 (by decide) ?_
              refine V_mask [true, true, false, false] ?_
              have hv : ∀ v, v = rsR w j → V g mX12_settles (rmD 2 0 0) (QM g 0 0 (fun r τ => r = none ∧ MS σ τ ∧ RS τ w (nH w) ∧ ∀ j, gG τ 77 j = gG σ 77 j)) 2 [some (vq (some 77)), some (vi ((j : Int) + 1)), none, none] [] 0 0 (setG τ 85 j v) := fun v q => ih (j + 1) _ (by omega) (hF.on _ _ (by decide)) (fun i hi => by
                by_cases z : i = j
                · rw [z, q]; exact gG_is _ _ _ _
                · exact (gG_ne _ _ (Or.inr z)).trans (hR i (by omega))) (fun i => (gG_ne _ _ (Or.inl (by decide))).trans (h77 i))
              refine hv _ ?_
              unfold rsR hgt
              first
                | rw [if_pos (by rw [hdep, if_pos (by omega)])]
                | (rw [if_neg (by rw [hdep, if_neg (by omega)]; omega), if_pos (by omega), hdep, if_neg (by omega)])
                | (rw [if_neg (by rw [hdep, if_neg (by omega)]; omega), if_neg (by omega), hdep, if_neg (by omega)])
          · omega
        | succ d ih2 =>
          intro j hj
          have hkj := hw.h (i := j) (by omega)
          have dj := dep_b w j
          have e85 := hR j (by omega)
          have hgj := hgt_hgt (k := dep w j) (s := w (64 + j)) (by omega)
          have rb : rsR w j = -5 ∨ (0 ≤ rsR w j ∧ rsR w j ≤ 8) := by
            unfold rsR
            split
            · exact Or.inl rfl
            · exact Or.inr (hgt_b (by omega))
          have fj := far_b (w := w) (side := w (64 + n)) j (fun i _ => dep_b w i)
          have h0 : ¬ (w (64 + j) = w (64 + n) ∧ dep w j ≠ -5) → min (qF w (w (58 + n)) 5 0) (far w (w (64 + n)) (dep w) (j + 1)) = min (qF w (w (58 + n)) 5 0) (far w (w (64 + n)) (dep w) j) := fun z => by rw [far_f z]
          have h1 : (w (64 + j) = w (64 + n)) → dep w j ≠ -5 → min (qF w (w (58 + n)) 5 0) (far w (w (64 + n)) (dep w) (j + 1)) = min (min (qF w (w (58 + n)) 5 0) (far w (w (64 + n)) (dep w) j)) (dep w j) := fun z z2 => by rw [far_t z z2]; omega
          have r5 : rsR w j = -5 → dep w j = -5 := fun z => by
            unfold rsR at z
            by_cases q : dep w j = -5
            · exact q
            · rw [if_neg q] at z
              have := hgt_b (d := dep w j) (s := w (64 + j)) (by omega)
              omega
          have r6 : rsR w j ≠ -5 → dep w j ≠ -5 ∧ hgt (rsR w j) (w (64 + j)) = dep w j := fun z => by
            unfold rsR at z ⊢
            by_cases q : dep w j = -5
            · rw [if_pos q] at z; exact absurd rfl z
            · rw [if_neg q]; exact ⟨q, hgj⟩
          have r7 : hgt (rsR w j) (w (64 + j)) = if w (64 + j) = 0 then rsR w j else 8 - rsR w j := rfl
          refine V_iload_n dX12_settles_63 rfl ?_
          refine V_iload_n dX12_settles_64 rfl ?_
          refine V_icmpge (tgt := 144) dX12_settles_65 (by decide) (by omega) (by omega) (fun br65 => ?_) (fun br65 => ?_)
          · omega
          · refine V_aload_n dX12_settles_68 rfl ?_
            refine V_getfr dX12_settles_69 sf_RX12_9 (by decide) (sh hS rfl) (rf hS rfl) ?_
            refine V_bipush dX12_settles_72 (by decide) ?_
            refine V_iload_n dX12_settles_74 rfl ?_
            refine V_iadd dX12_settles_75 ?_
            refine V_iald dX12_settles_76 (sh hS rfl) (by omega) ?_
            refine V_val (mw h78 (k := 64 + j) (by omega)) ?_
            refine V_aload_n dX12_settles_77 rfl ?_
            refine V_getfr dX12_settles_78 sf_RX12_9 (by decide) (sh hS rfl) (rf hS rfl) ?_
            refine V_bipush dX12_settles_81 (by decide) ?_
            refine V_iload_n dX12_settles_83 rfl ?_
            refine V_iadd dX12_settles_84 ?_
            refine V_iald dX12_settles_85 (sh hS rfl) (by omega) ?_
            refine V_val (mw h78 (k := 64 + n) (by omega)) ?_
            refine V_icmpne (tgt := 138) dX12_settles_86 (by decide) (by omega) (by omega) (fun br86 => ?_) (fun br86 => ?_)
            · refine V_iinc dX12_settles_138 rfl (by decide) rfl ?_
              refine V_goto (tgt := 63) dX12_settles_141 (by decide) ?_
              refine V_mask [true, true, true, true] ?_
              have q := ih2 (j + 1) (by omega)
              first
                | (rw [h0 (fun z => by omega)] at q; exact q)
                | (rw [h0 (fun z => z.2 (r5 br97))] at q; exact q)
                | (rw [h1 br86 (r6 br97).1, ← (r6 br97).2, r7, if_pos (by omega)] at q; exact q)
                | (rw [h1 br86 (r6 br97).1, ← (r6 br97).2, r7, if_neg (by omega)] at q; exact q)
            · refine V_aload_n dX12_settles_89 rfl ?_
              refine V_getfr dX12_settles_90 sf_RX12_33 (by decide) (sh hS rfl) (rf hS rfl) ?_
              refine V_iload_n dX12_settles_93 rfl ?_
              refine V_iald dX12_settles_94 (sh hS rfl) (by omega) ?_
              refine V_val (show _ = rsR w j by rw [Int.toNat_natCast]; exact e85) ?_
              refine V_bipush dX12_settles_95 (by decide) ?_
              refine V_icmpne (tgt := 103) dX12_settles_97 (by decide) (by omega) (by omega) (fun br97 => ?_) (fun br97 => ?_)
              · refine V_iload_n dX12_settles_103 rfl ?_
                refine V_aload_n dX12_settles_104 rfl ?_
                refine V_getfr dX12_settles_105 sf_RX12_9 (by decide) (sh hS rfl) (rf hS rfl) ?_
                refine V_bipush dX12_settles_108 (by decide) ?_
                refine V_iload_n dX12_settles_110 rfl ?_
                refine V_iadd dX12_settles_111 ?_
                refine V_iald dX12_settles_112 (sh hS rfl) (by omega) ?_
                refine V_val (mw h78 (k := 64 + j) (by omega)) ?_
                refine V_ifne (tgt := 125) dX12_settles_113 (by decide) (by omega) (fun br113 => ?_) (fun br113 => ?_)
                · refine V_bipush dX12_settles_125 (by decide) ?_
                  refine V_aload_n dX12_settles_127 rfl ?_
                  refine V_getfr dX12_settles_128 sf_RX12_33 (by decide) (sh hS rfl) (rf hS rfl) ?_
                  refine V_iload_n dX12_settles_131 rfl ?_
                  refine V_iald dX12_settles_132 (sh hS rfl) (by omega) ?_
                  refine V_val (show _ = rsR w j by rw [Int.toNat_natCast]; exact e85) ?_
                  refine V_isub dX12_settles_133 ?_
                  refine V_min dX12_settles_134 sm_RX12_140 (by decide) (by decide) (Nat.le_of_ble_eq_true rfl) (by omega) (by omega) ?_
                  refine V_istore_n dX12_settles_137 (by decide) rfl ?_
                  refine V_iinc dX12_settles_138 rfl (by decide) rfl ?_
                  refine V_goto (tgt := 63) dX12_settles_141 (by decide) ?_
                  refine V_mask [true, true, true, true] ?_
                  have q := ih2 (j + 1) (by omega)
                  first
                    | (rw [h0 (fun z => by omega)] at q; exact q)
                    | (rw [h0 (fun z => z.2 (r5 br97))] at q; exact q)
                    | (rw [h1 br86 (r6 br97).1, ← (r6 br97).2, r7, if_pos (by omega)] at q; exact q)
                    | (rw [h1 br86 (r6 br97).1, ← (r6 br97).2, r7, if_neg (by omega)] at q; exact q)
                · refine V_aload_n dX12_settles_116 rfl ?_
                  refine V_getfr dX12_settles_117 sf_RX12_33 (by decide) (sh hS rfl) (rf hS rfl) ?_
                  refine V_iload_n dX12_settles_120 rfl ?_
                  refine V_iald dX12_settles_121 (sh hS rfl) (by omega) ?_
                  refine V_val (show _ = rsR w j by rw [Int.toNat_natCast]; exact e85) ?_
                  refine V_goto (tgt := 134) dX12_settles_122 (by decide) ?_
                  refine V_min dX12_settles_134 sm_RX12_140 (by decide) (by decide) (Nat.le_of_ble_eq_true rfl) (by omega) (by omega) ?_
                  refine V_istore_n dX12_settles_137 (by decide) rfl ?_
                  refine V_iinc dX12_settles_138 rfl (by decide) rfl ?_
                  refine V_goto (tgt := 63) dX12_settles_141 (by decide) ?_
                  refine V_mask [true, true, true, true] ?_
                  have q := ih2 (j + 1) (by omega)
                  first
                    | (rw [h0 (fun z => by omega)] at q; exact q)
                    | (rw [h0 (fun z => z.2 (r5 br97))] at q; exact q)
                    | (rw [h1 br86 (r6 br97).1, ← (r6 br97).2, r7, if_pos (by omega)] at q; exact q)
                    | (rw [h1 br86 (r6 br97).1, ← (r6 br97).2, r7, if_neg (by omega)] at q; exact q)
              · refine V_goto (tgt := 138) dX12_settles_100 (by decide) ?_
                refine V_iinc dX12_settles_138 rfl (by decide) rfl ?_
                refine V_goto (tgt := 63) dX12_settles_141 (by decide) ?_
                refine V_mask [true, true, true, true] ?_
                have q := ih2 (j + 1) (by omega)
                first
                  | (rw [h0 (fun z => by omega)] at q; exact q)
                  | (rw [h0 (fun z => z.2 (r5 br97))] at q; exact q)
                  | (rw [h1 br86 (r6 br97).1, ← (r6 br97).2, r7, if_pos (by omega)] at q; exact q)
                  | (rw [h1 br86 (r6 br97).1, ← (r6 br97).2, r7, if_neg (by omega)] at q; exact q)
      have first5 : ∀ (d : Nat) (k : Int), k + d = 5 → 0 ≤ k → qF w (w (58 + n)) 5 0 = qF w (w (58 + n)) d k →
          V g mX12_settles (rmD 2 0 0) (QM g 0 0 (fun r τ => r = none ∧ MS σ τ ∧ RS τ w (nH w) ∧ ∀ j, gG τ 77 j = gG σ 77 j)) 14 [some (vq (some 77)), some (vi (n : Int)), some (vi k), none] [] 0 0 τ := by
        intro d
        induction d with
        | zero =>
          intro k hk5 hk0 he
          have e : k = 5 := by omega
          subst e
          have he' : qF w (w (58 + n)) 5 0 = 5 := he
          refine V_iload_n dX12_settles_14 rfl ?_
          refine V_iconst dX12_settles_15 ?_
          refine V_icmpge (tgt := 61) dX12_settles_16 (by decide) (by omega) (by omega) (fun br16 => ?_) (fun br16 => ?_)
          · refine V_iconst dX12_settles_61 ?_
            refine V_istore_n dX12_settles_62 (by decide) rfl ?_
            refine V_mask [true, true, true, true] ?_
            have q := inner n 0 (Nat.zero_add _)
            rw [he'] at q
            exact q
          · omega
        | succ d ih3 =>
          intro k hk5 hk0 he
          have gb := gir_b hw (h := hgt k (w (64 + n))) (hgt_b (by omega))
          have gh := gir_hgt w k (w (64 + n))
          have e1 : w (58 + n) ≤ gir w k → qF w (w (58 + n)) 5 0 = k := fun z => by rw [he]; exact if_pos z
          have e2 : ¬ w (58 + n) ≤ gir w k → qF w (w (58 + n)) 5 0 = qF w (w (58 + n)) d (k + 1) := fun z => by rw [he]; exact if_neg z
          have hb2 := hgt_b (d := k) (s := w (64 + n)) (by omega)
          have tail : V g mX12_settles (rmD 2 0 0) (QM g 0 0 (fun r τ => r = none ∧ MS σ τ ∧ RS τ w (nH w) ∧ ∀ j, gG τ 77 j = gG σ 77 j)) 40 [some (vq (some 77)), some (vi (n : Int)), some (vi k), none] [vi (hgt k (w (64 + n))), vq (some 77)] 0 0 τ := by
            refine V_callV dX12_settles_40 (c_mGirthAt g _ w hXt (hgt k (w (64 + n))) hb2) sv_RX12_163 (sh hS rfl) rfl ⟨⟨by decide, by decide⟩, ⟨by decide, by decide⟩⟩ (Nat.le_of_ble_eq_true rfl) (fun r40 s40 p40 => ?_)
            obtain ⟨rfl, rfl⟩ := p40
            refine V_aload_n dX12_settles_43 rfl ?_
            refine V_getfr dX12_settles_44 sf_RX12_9 (by decide) (sh hS rfl) (rf hS rfl) ?_
            refine V_bipush dX12_settles_47 (by decide) ?_
            refine V_iload_n dX12_settles_49 rfl ?_
            refine V_iadd dX12_settles_50 ?_
            refine V_iald dX12_settles_51 (sh hS rfl) (by omega) ?_
            refine V_val (mw h78 (k := 58 + n) (by omega)) ?_
            refine V_icmpge (tgt := 61) dX12_settles_52 (by decide) (by omega) (by omega) (fun br52 => ?_) (fun br52 => ?_)
            · refine V_iconst dX12_settles_61 ?_
              refine V_istore_n dX12_settles_62 (by decide) rfl ?_
              refine V_mask [true, true, true, true] ?_
              have q := inner n 0 (Nat.zero_add _)
              have f0 : far w (w (64 + n)) (dep w) 0 = 5 := rfl
              rw [e1 (by omega), f0, show min k 5 = k by omega] at q
              exact q
            · refine V_iinc dX12_settles_55 rfl (by decide) rfl ?_
              refine V_goto (tgt := 14) dX12_settles_58 (by decide) ?_
              refine V_mask [true, true, true, false] ?_
              exact ih3 (k + 1) (by omega) (by omega) (e2 (by omega))
          refine V_iload_n dX12_settles_14 rfl ?_
          refine V_iconst dX12_settles_15 ?_
          refine V_icmpge (tgt := 61) dX12_settles_16 (by decide) (by omega) (by omega) (fun br16 => ?_) (fun br16 => ?_)
          · omega
          · refine V_aload_n dX12_settles_19 rfl ?_
            refine V_aload_n dX12_settles_20 rfl ?_
            refine V_getfr dX12_settles_21 sf_RX12_9 (by decide) (sh hS rfl) (rf hS rfl) ?_
            refine V_bipush dX12_settles_24 (by decide) ?_
            refine V_iload_n dX12_settles_26 rfl ?_
            refine V_iadd dX12_settles_27 ?_
            refine V_iald dX12_settles_28 (sh hS rfl) (by omega) ?_
            refine V_val (mw h78 (k := 64 + n) (by omega)) ?_
            refine V_ifne (tgt := 36) dX12_settles_29 (by decide) (by omega) (fun br29 => ?_) (fun br29 => ?_)
            · refine V_bipush dX12_settles_36 (by decide) ?_
              refine V_iload_n dX12_settles_38 rfl ?_
              refine V_isub dX12_settles_39 ?_
              first
                | (have e : hgt k (w (64 + n)) = k := if_pos (by omega)
                   rw [e] at tail
                   exact tail)
                | (have e : hgt k (w (64 + n)) = 8 - k := if_neg (by omega)
                   rw [e] at tail
                   exact tail)
            · refine V_iload_n dX12_settles_32 rfl ?_
              refine V_goto (tgt := 40) dX12_settles_33 (by decide) ?_
              first
                | (have e : hgt k (w (64 + n)) = k := if_pos (by omega)
                   rw [e] at tail
                   exact tail)
                | (have e : hgt k (w (64 + n)) = 8 - k := if_neg (by omega)
                   rw [e] at tail
                   exact tail)
      refine V_iload_n dX12_settles_2 rfl ?_
      refine V_aload_n dX12_settles_3 rfl ?_
      refine V_getfr dX12_settles_4 sf_RX12_9 (by decide) (sh hS rfl) (rf hS rfl) ?_
      refine V_iconst dX12_settles_7 ?_
      refine V_iald dX12_settles_8 (sh hS rfl) (by omega) ?_
      refine V_val (mw h78 (k := 5) rfl) ?_
      refine V_icmpge (tgt := 186) dX12_settles_9 (by decide) (by omega) (by omega) (fun br9 => ?_) (fun br9 => ?_)
      · omega
      · refine V_iconst dX12_settles_12 ?_
        refine V_istore_n dX12_settles_13 (by decide) rfl ?_
        refine V_mask [true, true, true, false] ?_
        exact first5 5 0 rfl (Int.le_refl _) rfl
  refine V_iconst dX12_settles_0 ?_
  refine V_istore_n dX12_settles_1 (by decide) rfl ?_
  refine V_mask [true, true, false, false] ?_
  exact outer (nH w) 0 σ (Nat.zero_add _) (MS.rf σ) (fun j hj => absurd hj (Nat.not_lt_zero j)) (fun _ => rfl)