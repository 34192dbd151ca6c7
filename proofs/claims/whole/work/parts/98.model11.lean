/-- the first of the least -/
def bb (cd : Nat → Int) (T : List Nat) : Nat := (T.find? (fun s => decide (cd s = minL (T.map cd)))).getD 0
theorem bb_new {cd : Nat → Int} {T : List Nat} {s : Nat} (h : cd s < minL (T.map cd)) : bb cd (T ++ [s]) = s := by
  have hs : cd s ≤ 2147483647 := Int.le_of_lt (Int.lt_of_lt_of_le h (minL_top _))
  have e : minL ((T ++ [s]).map cd) = cd s := by
    rw [List.map_append]
    show minL (T.map cd ++ [cd s]) = _
    rw [minL_app _ _ hs]; omega
  unfold bb
  rw [e, List.find?_append]
  have n : T.find? (fun t => decide (cd t = cd s)) = none := by
    rw [List.find?_eq_none]
    intro t ht
    have := minL_le (List.mem_map.mpr ⟨t, ht, rfl⟩ : cd t ∈ T.map cd)
    simp
    omega
  rw [n]
  simp
theorem bb_old {cd : Nat → Int} {T : List Nat} {s : Nat} (h : minL (T.map cd) ≤ cd s) (hs : cd s ≤ 2147483647) (hT : T ≠ []) (hb : ∀ t ∈ T, cd t ≤ 2147483647) : bb cd (T ++ [s]) = bb cd T := by
  have e : minL ((T ++ [s]).map cd) = minL (T.map cd) := by
    rw [List.map_append]
    show minL (T.map cd ++ [cd s]) = _
    rw [minL_app _ _ hs]; omega
  have hin := minL_in (l := T.map cd) (fun q => hT (List.map_eq_nil_iff.mp q)) (fun a ha => by
    obtain ⟨t, ht, rfl⟩ := List.mem_map.mp ha
    exact hb t ht)
  obtain ⟨t, ht, he⟩ := List.mem_map.mp hin
  unfold bb
  rw [e, List.find?_append]
  cases hf : T.find? (fun s => decide (cd s = minL (T.map cd))) with
  | none => exact absurd (decide_eq_true he) (List.find?_eq_none.mp hf t ht)
  | some q => rfl
theorem mem_sub {L a b i : Nat} (h : i ∈ mem L a) (hab : a ≤ b) : i ∈ mem L b := by
  rw [mem_in] at h ⊢
  exact ⟨by omega, h.2⟩
theorem c_mGoes (g : Gl) (w : Nat → Int) (p most : Int) (hp : 0 ≤ p ∧ p ≤ 99) (hm : inR most) (J : Nat) (hJ8 : J ≤ 8) : ∀ (K n : Nat) (σ : St) (L : Nat) (l : List Nat), MX σ w → l.length = n + 1 → n + 1 + K = J → L < 2 ^ nS w → (mem L (nS w)).length = K → gG σ 77 12 = (J : Int) → RGr σ w 83 l (n + 1) → (0 ≤ gG σ 77 15 ∧ gG σ 77 15 ≤ 1000000000) → (0 ≤ gG σ 77 17 ∧ gG σ 77 17 ≤ 1000000000) →
    Ct g mX12_goesRound (3 + K) 0 0 [vq (some 77), vi (L : Int), vi ((n : Int) + 1), vi p, vi most] σ (PGR w p most J K L l n σ) := by
  intro K
  induction K with
  | zero =>
    intro n σ L l hX hl hJ hL hK h12 hr hlk htt
    have hL0 : L = 0 := by
      by_cases q : L = 0
      · exact q
      · exact absurd (List.length_eq_zero_iff.mp hK) (mem_ne hL q)
    subst hL0
    have hJ' : J = n + 1 := by omega
    subst hJ'
    exact c_mGoes0 g σ w hX p most hp hm l n hl (by omega) h12 hr hlk htt
  | succ K IH =>
    intro n σ L l hX hl hJ hL hK h12 hr hlk htt
    refine Ct.of (by decide +kernel) (Nat.le_of_ble_eq_true rfl) ?_
    have hw := hX.2.2
    have hN := wf_n hw
    have hP := two_nS hw
    have hS0 := hX.1
    have hL0 : L ≠ 0 := fun q => by rw [q, mem_0] at hK; cases hK
    obtain ⟨rem, hrem⟩ : ∃ rem, rem = mem L (nS w) := ⟨_, rfl⟩
    obtain ⟨x, hx⟩ : ∃ x, x = l.getD n 0 := ⟨_, rfl⟩
    obtain ⟨f, hf⟩ : ∃ f, f = l.getD 0 0 := ⟨_, rfl⟩
    obtain ⟨a, ha⟩ : ∃ a, a = preS w p l n := ⟨_, rfl⟩
    obtain ⟨b, hb⟩ : ∃ b, b = preM w l n := ⟨_, rfl⟩
    have hnd : rem.Nodup := by rw [hrem]; exact mem_nodup _ _
    have hlen : rem.length = K + 1 := by rw [hrem]; exact hK
    have ab : 0 ≤ a ∧ a ≤ 99 * n := by rw [ha]; exact preS_b hw hp.1 l n
    have bb0 : 0 ≤ b ∧ b ≤ 99 := by rw [hb]; exact preM_b hw l n
    have cd_b : ∀ t ∈ rem, 0 ≤ cst w p x t + mn false (cst w p) f K (drp rem t) t ∧ cst w p x t + mn false (cst w p) f K (drp rem t) t ≤ 2000 := fun t ht => by
      have h1 := mn_b (wd := false) (cst_ok hw hp.1) f K (drp rem t) t (drp_nodup hnd t) (by have := drp_len hnd ht; omega)
      have h2 := cst_ok hw hp.1 x t
      omega
    have cm_b : ∀ t ∈ rem, 0 ≤ max (cst w 0 x t) (mn true (cst w 0) f K (drp rem t) t) ∧ max (cst w 0 x t) (mn true (cst w 0) f K (drp rem t) t) ≤ 2000 := fun t ht => by
      have h1 := mn_b (wd := true) (cst_ok hw (Int.le_refl 0)) f K (drp rem t) t (drp_nodup hnd t) (by have := drp_len hnd ht; omega)
      have h2 := cst_ok hw (Int.le_refl 0) x t
      omega
    obtain ⟨cd, hcd⟩ : ∃ cd : Nat → Int, cd = fun t => cst w p x t + mn false (cst w p) f K (drp rem t) t := ⟨_, rfl⟩
    obtain ⟨cm, hcm⟩ : ∃ cm : Nat → Int, cm = fun t => max (cst w 0 x t) (mn true (cst w 0) f K (drp rem t) t) := ⟨_, rfl⟩
    obtain ⟨cc, hcc⟩ : ∃ cc : Nat → Int, cc = fun t => ct (cst w p) f K (drp rem t) t (most - a - cst w p x t) := ⟨_, rfl⟩
    have cdb : ∀ t ∈ rem, 0 ≤ cd t ∧ cd t ≤ 2000 := by rw [hcd]; exact cd_b
    have cmb : ∀ t ∈ rem, 0 ≤ cm t ∧ cm t ≤ 2000 := by rw [hcm]; exact cm_b
    have eA : ar (cst w p) f (K + 1) rem x = bb cd rem :: ar (cst w p) f K (drp rem (bb cd rem)) (bb cd rem) := by rw [hcd]; rfl
    have e15 : mn false (cst w p) f (K + 1) rem x = minL (rem.map cd) := by rw [hcd]; rfl
    have e16 : ct (cst w p) f (K + 1) rem x (most - a) = sumL (rem.map cc) := by rw [hcc]; rfl
    have e17 : mn true (cst w 0) f (K + 1) rem x = minL (rem.map cm) := by rw [hcm]; rfl
    have loop : ∀ (m s : Nat) (τ : St), s + m = nS w → MF (n + 1) σ τ → gG τ 77 15 = min (gG σ 77 15) (a + minL ((mem L s).map cd)) → gG τ 77 16 = gG σ 77 16 + sumL ((mem L s).map cc) → gG τ 77 17 = min (gG σ 77 17) (max b (minL ((mem L s).map cm))) →
        (∀ j, j < J → gG τ 84 j = if a + minL ((mem L s).map cd) < gG σ 77 15 then (((l ++ bb cd (mem L s) :: ar (cst w p) f K (drp rem (bb cd (mem L s))) (bb cd (mem L s))).getD j 0 : Nat) : Int) else gG σ 84 j) →
        V g mX12_goesRound (rmD (3 + (K + 1)) 0 0) (QM g 0 0 (PGR w p most J (K + 1) L l n σ)) 135 [some (vq (some 77)), some (vi (L : Int)), some (vi ((n : Int) + 1)), some (vi p), some (vi most), some (vi (s : Int)), none, none] [] 0 0 τ := by
      intro m
      induction m with
      | zero =>
        intro s τ hs hF i15 i16 i17 i84
        have es : s = nS w := by omega
        subst es
        rw [← hrem] at i15 i16 i17 i84
        have hXt := hF.mx hX
        obtain ⟨hS, h78, -⟩ := hXt
        refine V_iload dX12_goesRound_135 rfl ?_
        refine V_aload_n dX12_goesRound_137 rfl ?_
        refine V_getfr dX12_goesRound_138 sf_RX12_9 (by decide) (sh hS rfl) (rf hS rfl) ?_
        refine V_iconst dX12_goesRound_141 ?_
        refine V_iald dX12_goesRound_142 (sh hS rfl) (by omega) ?_
        refine V_val (mw h78 (k := 4) rfl) ?_
        refine V_icmpge (tgt := 190) dX12_goesRound_143 (by decide) (by omega) (by omega) (fun br143 => ?_) (fun br143 => ?_)
        · refine V_vret dX12_goesRound_190 rfl (Nat.le_refl _) (Nat.le_refl _) ?_
          unfold PGR GR
          rw [← hrem, ← hf, ← hx, ← ha, ← hb, e15, e16, e17, eA]
          exact ⟨rfl, hF, i15, i16, i17, i84⟩
        · omega
      | succ m ih =>
        intro s τ hs hF i15 i16 i17 i84
        have hXt := hF.mx hX
        obtain ⟨hS, h78, -⟩ := id hXt
        have hbt := bt_nat L s
        unfold bt at hbt
        rw [Int.toNat_natCast] at hbt
        have m15 := minL_top ((mem L s).map cd)
        by_cases hin : L.testBit s = true
        · have em : mem L (s + 1) = mem L s ++ [s] := by rw [mem_s, if_pos hin]
          have hsr : s ∈ rem := by rw [hrem]; exact mem_in.mpr ⟨by omega, hin⟩
          have hsub : ∀ t ∈ mem L s, t ∈ rem := fun t ht => by rw [hrem]; exact mem_sub ht (by omega)
          have hcs := cdb s hsr
          have hms := cmb s hsr
          have hb2 := (bits_all L (by omega) s (by omega) hin).2.1
          have ecl := clr_nat (by omega : L < 512) (by omega : s < 9) hin
          have emc := mem_clr (N := nS w) (by omega : L < 512) (by omega : s < 9) hN.2 hin
          rw [← hrem] at emc
          have hF2 : MF (n + 1) σ (setG τ 83 (n + 1) (s : Int)) := hF.on83 _ (Nat.le_refl _)
          have hX2 := hF2.mx hX
          have h12' : gG (setG τ 83 (n + 1) (s : Int)) 77 12 = (J : Int) := (hF2.2.2.1 12 (by decide) (by decide) (by decide)).trans h12
          have t15 : gG (setG τ 83 (n + 1) (s : Int)) 77 15 = min (gG σ 77 15) (a + minL ((mem L s).map cd)) := (gG_ne _ _ (Or.inl (by decide))).trans i15
          have t16 : gG (setG τ 83 (n + 1) (s : Int)) 77 16 = gG σ 77 16 + sumL ((mem L s).map cc) := (gG_ne _ _ (Or.inl (by decide))).trans i16
          have t17 : gG (setG τ 83 (n + 1) (s : Int)) 77 17 = min (gG σ 77 17) (max b (minL ((mem L s).map cm))) := (gG_ne _ _ (Or.inl (by decide))).trans i17
          have t84 : ∀ j, gG (setG τ 83 (n + 1) (s : Int)) 84 j = gG τ 84 j := fun j => gG_ne _ _ (Or.inl (by decide))
          have d15 : 0 ≤ minL ((mem L s).map cd) := minL_lo (by decide) (fun z hz => by
            obtain ⟨t, ht, rfl⟩ := List.mem_map.mp hz
            exact (cdb t (hsub t ht)).1)
          have d17 : 0 ≤ minL ((mem L s).map cm) := minL_lo (by decide) (fun z hz => by
            obtain ⟨t, ht, rfl⟩ := List.mem_map.mp hz
            exact (cmb t (hsub t ht)).1)
          have hr2 : RGr (setG τ 83 (n + 1) (s : Int)) w 83 (l ++ [s]) (n + 1 + 1) := fun j hj => by
            by_cases q : j = n + 1
            · subst q
              rw [getD_ap2 hl]
              exact ⟨gG_is _ _ _ _, by omega⟩
            · have q2 := hF2.rg hr j (by omega)
              rw [getD_ap1 (by omega)]
              exact q2
          have C := IH (n + 1) (setG τ 83 (n + 1) (s : Int)) (L - 2 ^ s) (l ++ [s]) hX2 (by rw [List.length_append, hl]; rfl) (by omega) (Nat.lt_of_le_of_lt (Nat.sub_le _ _) hL) (by rw [emc]; have := drp_len hnd hsr; omega) h12' hr2 (by rw [t15]; omega) (by rw [t17]; omega)
          unfold PGR GR at C
          rw [emc, getD_ap2 hl, getD_ap1 (by omega : 0 < l.length), preS_ap hl, preM_ap hl, ← hf, ← hx, ← ha, ← hb, t15, t16, t17] at C
          refine V_iload dX12_goesRound_135 rfl ?_
          refine V_aload_n dX12_goesRound_137 rfl ?_
          refine V_getfr dX12_goesRound_138 sf_RX12_9 (by decide) (sh hS rfl) (rf hS rfl) ?_
          refine V_iconst dX12_goesRound_141 ?_
          refine V_iald dX12_goesRound_142 (sh hS rfl) (by omega) ?_
          refine V_val (mw h78 (k := 4) rfl) ?_
          refine V_icmpge (tgt := 190) dX12_goesRound_143 (by decide) (by omega) (by omega) (fun br143 => ?_) (fun br143 => ?_)
          · omega
          · refine V_iload_n dX12_goesRound_146 rfl ?_
            refine V_iload dX12_goesRound_147 rfl ?_
            refine V_ishr dX12_goesRound_149 (by omega) ?_
            refine V_iconst dX12_goesRound_150 ?_
            refine V_iand1 dX12_goesRound_151 ?_
            rw [Int.toNat_natCast]
            refine V_ifne (tgt := 158) dX12_goesRound_152 (by decide) (by omega) (fun br152 => ?_) (fun br152 => ?_)
            · refine V_aload_n dX12_goesRound_158 rfl ?_
              refine V_getfr dX12_goesRound_159 sf_RX12_27 (by decide) (sh hS rfl) (rf hS rfl) ?_
              refine V_iload_n dX12_goesRound_162 rfl ?_
              refine V_val (show (n : Int) + 1 = ((n + 1 : Nat) : Int) by omega) ?_
              refine V_iload dX12_goesRound_163 rfl ?_
              refine V_iast dX12_goesRound_165 (sh hS rfl) (by omega) ?_
              refine V_aload_n dX12_goesRound_166 rfl ?_
              refine V_iload_n dX12_goesRound_167 rfl ?_
              refine V_iconst dX12_goesRound_168 ?_
              refine V_iload dX12_goesRound_169 rfl ?_
              refine V_ishl dX12_goesRound_171 (by omega) ?_
              refine V_iconst dX12_goesRound_172 ?_
              refine V_inot dX12_goesRound_173 ?_
              refine V_iand dX12_goesRound_174 ?_
              refine V_val ((clr_of (s := (L : Int)) (i := (s : Int)) (by omega) (by omega) (by omega) (by omega)).trans ecl) ?_
              refine V_iload_n dX12_goesRound_175 rfl ?_
              refine V_iconst dX12_goesRound_176 ?_
              refine V_iadd dX12_goesRound_177 ?_
              refine V_val (show (n : Int) + 1 + 1 = ((n + 1 : Nat) : Int) + 1 by omega) ?_
              refine V_iload_n dX12_goesRound_178 rfl ?_
              refine V_iload dX12_goesRound_179 rfl ?_
              refine V_callV dX12_goesRound_181 C sv_RX12_146 (sh hS rfl) rfl (cr0 (by omega)) (Nat.le_of_ble_eq_true rfl) (fun r181 s181 p181 => ?_)
              obtain ⟨rfl, hG, u15, u16, u17, u84⟩ := p181
              refine V_iinc dX12_goesRound_184 rfl (by decide) rfl ?_
              refine V_goto (tgt := 135) dX12_goesRound_187 (by decide) ?_
              refine V_mask [true, true, true, true, true, true, false, false] ?_
              refine ih (s + 1) _ (by omega) (hF2.tr hG (by omega)) ?_ ?_ ?_ ?_
              · rw [u15, em, List.map_append]
                show _ = min _ (a + minL ((mem L s).map cd ++ [cd s]))
                rw [minL_app _ _ (by omega)]
                have e : cd s = cst w p x s + mn false (cst w p) f K (drp rem s) s := by rw [hcd]
                omega
              · rw [u16, em, List.map_append]
                show _ = _ + sumL ((mem L s).map cc ++ [cc s])
                rw [sumL_app]
                have e : cc s = ct (cst w p) f K (drp rem s) s (most - (a + cst w p x s)) := by rw [hcc]; show ct _ _ _ _ _ (most - a - cst w p x s) = _; rw [Int.sub_sub]
                rw [e]; omega
              · rw [u17, em, List.map_append]
                show _ = min _ (max b (minL ((mem L s).map cm ++ [cm s])))
                rw [minL_app _ _ (by omega)]
                have e : cm s = max (cst w 0 x s) (mn true (cst w 0) f K (drp rem s) s) := by rw [hcm]
                omega
              · intro j hj
                rw [u84 j hj, t84 j, i84 j hj, em, List.map_append]
                have e2 : minL ((mem L s).map cd ++ [cd s]) = min (minL ((mem L s).map cd)) (cd s) := minL_app _ _ (by omega)
                have e3 : List.map cd [s] = [cd s] := rfl
                rw [e3, e2]
                have e : cd s = cst w p x s + mn false (cst w p) f K (drp rem s) s := by rw [hcd]
                by_cases q : a + cst w p x s + mn false (cst w p) f K (drp rem s) s < min (gG σ 77 15) (a + minL ((mem L s).map cd))
                · rw [if_pos q, if_pos (by omega), bb_new (by omega), List.append_assoc]
                  rfl
                · rw [if_neg q]
                  by_cases q2 : a + minL ((mem L s).map cd) < gG σ 77 15
                  · rw [if_pos q2, if_pos (by omega), bb_old (by omega) (by omega) (fun z => by rw [z] at q2; have q3 : a + 2147483647 < gG σ 77 15 := q2; omega) (fun t ht => by have := cdb t (hsub t ht); omega)]
                  · rw [if_neg q2, if_neg (by omega)]
            · exact absurd (show (L : Int) / 2 ^ s % 2 = 1 by exact hbt.mpr hin) (by omega)
        · have em : mem L (s + 1) = mem L s := by rw [mem_s, if_neg hin, List.append_nil]
          have q := ih (s + 1) τ (by omega) hF (by rw [em]; exact i15) (by rw [em]; exact i16) (by rw [em]; exact i17) (by rw [em]; exact i84)
          refine V_iload dX12_goesRound_135 rfl ?_
          refine V_aload_n dX12_goesRound_137 rfl ?_
          refine V_getfr dX12_goesRound_138 sf_RX12_9 (by decide) (sh hS rfl) (rf hS rfl) ?_
          refine V_iconst dX12_goesRound_141 ?_
          refine V_iald dX12_goesRound_142 (sh hS rfl) (by omega) ?_
          refine V_val (mw h78 (k := 4) rfl) ?_
          refine V_icmpge (tgt := 190) dX12_goesRound_143 (by decide) (by omega) (by omega) (fun br143 => ?_) (fun br143 => ?_)
          · omega
          · refine V_iload_n dX12_goesRound_146 rfl ?_
            refine V_iload dX12_goesRound_147 rfl ?_
            refine V_ishr dX12_goesRound_149 (by omega) ?_
            refine V_iconst dX12_goesRound_150 ?_
            refine V_iand1 dX12_goesRound_151 ?_
            rw [Int.toNat_natCast]
            refine V_ifne (tgt := 158) dX12_goesRound_152 (by decide) (by omega) (fun br152 => ?_) (fun br152 => ?_)
            · exact absurd (hbt.mp (by omega)) hin
            · refine V_goto (tgt := 184) dX12_goesRound_155 (by decide) ?_
              refine V_iinc dX12_goesRound_184 rfl (by decide) rfl ?_
              refine V_goto (tgt := 135) dX12_goesRound_187 (by decide) ?_
              refine V_mask [true, true, true, true, true, true, false, false] ?_
              exact q
    refine V_iload_n dX12_goesRound_0 rfl ?_
    refine V_ifne (tgt := 132) dX12_goesRound_1 (by decide) (by omega) (fun br1 => ?_) (fun br1 => ?_)
    · refine V_iconst dX12_goesRound_132 ?_
      refine V_istore dX12_goesRound_133 (by decide) rfl ?_
      refine V_mask [true, true, true, true, true, true, false, false] ?_
      have e0 : mem L 0 = [] := rfl
      refine loop (nS w) 0 σ (Nat.zero_add _) (MF.rf _ _) ?_ ?_ ?_ (fun j hj => ?_)
      · rw [e0]
        show _ = min _ (a + 2147483647)
        omega
      · rw [e0]
        show _ = _ + 0
        omega
      · rw [e0]
        show _ = min _ (max b 2147483647)
        omega
      · rw [e0, if_neg]
        show ¬ a + 2147483647 < gG σ 77 15
        omega
    · omega