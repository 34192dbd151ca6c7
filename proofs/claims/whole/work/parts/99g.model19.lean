def hb2 (cd : Nat → Int) (T : List Nat) : Nat := (T.find? (fun x => decide (cd x = mfold (T.map cd)))).getD 0
theorem mfold_le : ∀ (l : List Int) (a : Int), a ∈ l → a ≠ -5 → (∀ z ∈ l, z = -5 ∨ 0 ≤ z) → mfold l ≠ -5 ∧ mfold l ≤ a := by
  intro l
  have key : ∀ (l : List Int) (b : Int), (b = -5 ∨ 0 ≤ b) → (∀ z ∈ l, z = -5 ∨ 0 ≤ z) → (b ≠ -5 → l.foldl stpM b ≠ -5 ∧ l.foldl stpM b ≤ b) ∧ ∀ a ∈ l, a ≠ -5 → l.foldl stpM b ≠ -5 ∧ l.foldl stpM b ≤ a := by
    intro l
    induction l with
    | nil => intro b hb _; exact ⟨fun h => ⟨h, Int.le_refl _⟩, fun a ha => by cases ha⟩
    | cons c t ih =>
      intro b hb hz
      have hc := hz c List.mem_cons_self
      have hs : stpM b c = -5 ∨ 0 ≤ stpM b c := by unfold stpM; split <;> omega
      have q := ih (stpM b c) hs (fun z hz2 => hz z (List.mem_cons_of_mem _ hz2))
      have e : (c :: t).foldl stpM b = t.foldl stpM (stpM b c) := rfl
      rw [e]
      refine ⟨fun h => ?_, fun a ha hne => ?_⟩
      · have s1 : stpM b c ≠ -5 ∧ stpM b c ≤ b := by unfold stpM; split <;> omega
        have := q.1 s1.1
        exact ⟨this.1, Int.le_trans this.2 s1.2⟩
      · rcases List.mem_cons.mp ha with h | h
        · subst h
          have s1 : stpM b a ≠ -5 ∧ stpM b a ≤ a := by unfold stpM; split <;> omega
          have := q.1 s1.1
          exact ⟨this.1, Int.le_trans this.2 s1.2⟩
        · exact q.2 a h hne
  intro a ha hne hz
  exact (key l (-5) (Or.inl rfl) hz).2 a ha hne
theorem hb2_new {cd : Nat → Int} {T : List Nat} {s : Nat} (hz : ∀ t ∈ T, cd t = -5 ∨ 0 ≤ cd t) (h0 : cd s ≠ -5) (h : mfold (T.map cd) = -5 ∨ cd s < mfold (T.map cd)) : hb2 cd (T ++ [s]) = s := by
  have e : mfold ((T ++ [s]).map cd) = cd s := by
    rw [List.map_append]
    show mfold (T.map cd ++ [cd s]) = _
    rw [mfold_app]
    exact if_pos ⟨h0, h⟩
  unfold hb2
  rw [e, List.find?_append]
  have n : T.find? (fun t => decide (cd t = cd s)) = none := by
    rw [List.find?_eq_none]
    intro t ht q
    have q2 := of_decide_eq_true q
    have := mfold_le (T.map cd) (cd t) (List.mem_map.mpr ⟨t, ht, rfl⟩) (by rw [q2]; exact h0) (fun z hz2 => by
      obtain ⟨u, hu, rfl⟩ := List.mem_map.mp hz2
      exact hz u hu)
    rcases h with h | h
    · exact this.1 h
    · omega
  rw [n]
  simp
theorem hb2_old {cd : Nat → Int} {T : List Nat} {s : Nat} (hm : mfold (T.map cd) ≠ -5) (h : ¬ (cd s ≠ -5 ∧ (mfold (T.map cd) = -5 ∨ cd s < mfold (T.map cd)))) : hb2 cd (T ++ [s]) = hb2 cd T := by
  have e : mfold ((T ++ [s]).map cd) = mfold (T.map cd) := by
    rw [List.map_append]
    show mfold (T.map cd ++ [cd s]) = _
    rw [mfold_app]
    exact if_neg h
  obtain ⟨t, ht, he⟩ := List.mem_map.mp ((mfold_or (T.map cd)).resolve_left hm)
  unfold hb2
  rw [e, List.find?_append]
  cases hf : T.find? (fun x => decide (cd x = mfold (T.map cd))) with
  | none => exact absurd (decide_eq_true he) (List.find?_eq_none.mp hf t ht)
  | some q => rfl
theorem c_mGoesOn (g : Gl) (w : Nat → Int) (r : Int) (hr : 1 ≤ r ∧ r ≤ 200) : ∀ (K n : Nat) (σ : St) (L : Nat) (l : List Nat) (so : Int), MX σ w → l.length = n → n + K = nB w → L < 2 ^ nB w → (remL w L).length = K → (∀ j, j < n → gG σ 86 j = ((l.getD j 0 : Nat) : Int)) → (0 ≤ so ∧ so ≤ 40000 * n) → (0 ≤ gG σ 77 21 ∧ gG σ 77 21 ≤ 1000000000) →
    Ct g mX12_goesOn (2 + K) 0 0 [vq (some 77), vi r, vi (L : Int), vi (n : Int), vi (eW w L), vi so] σ (PGO w r K (remL w L) l n (eW w L) so σ) := by
  intro K
  induction K with
  | zero =>
    intro n σ L l so hX hl hn hL hK hrow hso hu
    have hw := hX.2.2
    have hNb := wf_nB hw
    have eb := eW_b hw L
    have hp : 2 ^ nB w ≤ 2 ^ 7 := pw_le hNb.2
    by_cases hd : 2 * r ≤ eW w L
    · exact c_mOnD g w r hr 0 n 2 σ (L : Int) (by omega) (remL w L) l (eW w L) so hX hl (by omega) ⟨hd, eb.2⟩ hrow (by omega) hu
    · refine Ct.of (by decide +kernel) (Nat.le_of_ble_eq_true rfl) ?_
      have hS := hX.1
      have h78 := hX.2.1
      have hnil : remL w L = [] := List.length_eq_zero_iff.mp hK
      have loop : ∀ (m j : Nat), j + m = nB w → V g mX12_goesOn (rmD 2 0 0) (QM g 0 0 (PGO w r 0 (remL w L) l n (eW w L) so σ)) 84 [some (vq (some 77)), some (vi r), some (vi (L : Int)), some (vi (n : Int)), some (vi (eW w L)), some (vi so), some (vi (j : Int))] [] 0 0 σ := by
        intro m
        induction m with
        | zero =>
          intro j hj
          have e0 : hM w r 0 (remL w L) (eW w L) = -5 := if_neg hd
          have e1 : hC w r 0 (remL w L) (eW w L) = 0 := if_neg hd
          refine V_iload dX12_goesOn_84 rfl ?_
          refine V_aload_n dX12_goesOn_86 rfl ?_
          refine V_getfr dX12_goesOn_87 sf_RX12_9 (by decide) (sh hS rfl) (rf hS rfl) ?_
          refine V_bipush dX12_goesOn_90 (by decide) ?_
          refine V_iald dX12_goesOn_92 (sh hS rfl) (by omega) ?_
          refine V_val (mw h78 (k := 6) rfl) ?_
          refine V_icmpge (tgt := 162) dX12_goesOn_93 (by decide) (by omega) (by omega) (fun br93 => ?_) (fun br93 => ?_)
          · refine V_vret dX12_goesOn_162 rfl (Nat.le_refl _) (Nat.le_refl _) ?_
            exact ⟨rfl, MH.rf _ _, by rw [e1, Int.add_zero], by rw [e0, if_pos rfl], by rw [e0, if_neg (fun z => z.1 rfl)], by rw [e0, if_neg (fun z => z.1 rfl)]⟩
          · omega
        | succ m ih =>
          intro j hj
          have hbt := bt_nat L j
          unfold bt at hbt
          rw [Int.toNat_natCast] at hbt
          have hb : L.testBit j = true := by
            cases q : L.testBit j with
            | true => rfl
            | false =>
              have : j ∈ remL w L := (rem_in hL).mpr ⟨by omega, by rw [q]; decide⟩
              rw [hnil] at this
              cases this
          refine V_iload dX12_goesOn_84 rfl ?_
          refine V_aload_n dX12_goesOn_86 rfl ?_
          refine V_getfr dX12_goesOn_87 sf_RX12_9 (by decide) (sh hS rfl) (rf hS rfl) ?_
          refine V_bipush dX12_goesOn_90 (by decide) ?_
          refine V_iald dX12_goesOn_92 (sh hS rfl) (by omega) ?_
          refine V_val (mw h78 (k := 6) rfl) ?_
          refine V_icmpge (tgt := 162) dX12_goesOn_93 (by decide) (by omega) (by omega) (fun br93 => ?_) (fun br93 => ?_)
          · omega
          · refine V_iload_n dX12_goesOn_96 rfl ?_
            refine V_iload dX12_goesOn_97 rfl ?_
            refine V_ishr dX12_goesOn_99 (by omega) ?_
            refine V_iconst dX12_goesOn_100 ?_
            refine V_iand1 dX12_goesOn_101 ?_
            refine V_iconst dX12_goesOn_102 ?_
            rw [Int.toNat_natCast]
            refine V_icmpne (tgt := 109) dX12_goesOn_103 (by decide) (by omega) (by omega) (fun br103 => ?_) (fun br103 => ?_)
            · exact absurd (hbt.mpr hb) (by omega)
            · refine V_goto (tgt := 156) dX12_goesOn_106 (by decide) ?_
              refine V_iinc dX12_goesOn_156 rfl (by decide) rfl ?_
              refine V_goto (tgt := 84) dX12_goesOn_159 (by decide) ?_
              refine V_mask [true, true, true, true, true, true, true] ?_
              exact ih (j + 1) (by omega)
      refine V_iload dX12_goesOn_0 rfl ?_
      refine V_iconst dX12_goesOn_2 ?_
      refine V_iload_n dX12_goesOn_3 rfl ?_
      refine V_imul dX12_goesOn_4 ?_
      refine V_icmplt (tgt := 81) dX12_goesOn_5 (by decide) (by omega) (by omega) (fun br5 => ?_) (fun br5 => ?_)
      · refine V_iconst dX12_goesOn_81 ?_
        refine V_istore dX12_goesOn_82 (by decide) rfl ?_
        refine V_mask [true, true, true, true, true, true, true] ?_
        exact loop (nB w) 0 (Nat.zero_add _)
      · omega
  | succ K IH =>
    intro n σ L l so hX hl hn hL hK hrow hso hu
    have hw := hX.2.2
    have hNb := wf_nB hw
    have eb := eW_b hw L
    have hp : 2 ^ nB w ≤ 2 ^ 7 := pw_le hNb.2
    by_cases hd : 2 * r ≤ eW w L
    · exact c_mOnD g w r hr (K + 1) n (2 + (K + 1)) σ (L : Int) (by omega) (remL w L) l (eW w L) so hX hl (by omega) ⟨hd, eb.2⟩ hrow (by omega) hu
    · refine Ct.of (by decide +kernel) (Nat.le_of_ble_eq_true rfl) ?_
      have hS0 := hX.1
      obtain ⟨rem, hrem⟩ : ∃ rem, rem = remL w L := ⟨_, rfl⟩
      obtain ⟨cd, hcd⟩ : ∃ cd : Nat → Int, cd = fun x => plusN (spt r (wid w x) (eW w L)) (hM w r K (drp rem x) (eW w L + wid w x)) := ⟨_, rfl⟩
      obtain ⟨cc, hcc⟩ : ∃ cc : Nat → Int, cc = fun x => hC w r K (drp rem x) (eW w L + wid w x) := ⟨_, rfl⟩
      have e1 : hM w r (K + 1) rem (eW w L) = mfold (rem.map cd) := by rw [hcd]; exact if_neg hd
      have e2 : hC w r (K + 1) rem (eW w L) = sumL (rem.map cc) := by rw [hcc]; exact if_neg hd
      have e3 : hA w r (K + 1) rem (eW w L) = hb2 cd rem :: hA w r K (drp rem (hb2 cd rem)) (eW w L + wid w (hb2 cd rem)) := by
        have q : hN w r K rem (eW w L) = hb2 cd rem := by
          unfold hN hb2
          rw [e1, hcd]
        show (if _ then _ else _) = _
        rw [if_neg hd, q]
      have hin : ∀ x ∈ rem, x < nB w ∧ ¬ L.testBit x = true := fun x hx => by rw [hrem] at hx; exact (rem_in hL).mp hx
      have hMx : ∀ x ∈ rem, hM w r K (drp rem x) (eW w L + wid w x) = -5 ∨ (0 ≤ hM w r K (drp rem x) (eW w L + wid w x) ∧ hM w r K (drp rem x) (eW w L + wid w x) ≤ 40000 * K) := fun x hx => by
        have wb := wid_b hw (hin x hx).1
        exact hM_b hw hr K _ _ (fun y hy => (hin y (drp_sub hy)).1) (by omega)
      have hsp : ∀ x ∈ rem, 0 ≤ spt r (wid w x) (eW w L) ∧ spt r (wid w x) (eW w L) ≤ 40000 := fun x hx => by
        have wb := wid_b hw (hin x hx).1
        exact spt_b (wd := wid w x) hr (s := eW w L) (by omega) (by omega)
      have cde : ∀ x ∈ rem, (hM w r K (drp rem x) (eW w L + wid w x) = -5 → cd x = -5) ∧ (hM w r K (drp rem x) (eW w L + wid w x) ≠ -5 → cd x = spt r (wid w x) (eW w L) + hM w r K (drp rem x) (eW w L + wid w x)) := fun x hx => by
        rw [hcd]
        exact ⟨fun z => if_pos z, fun z => if_neg z⟩
      have cdb : ∀ x ∈ rem, cd x = -5 ∨ (0 ≤ cd x ∧ cd x ≤ 40000 * (K + 1)) := fun x hx => by
        have a := hMx x hx
        have b := hsp x hx
        have c := cde x hx
        by_cases z : hM w r K (drp rem x) (eW w L + wid w x) = -5
        · exact Or.inl (c.1 z)
        · have := c.2 z; omega
      have loop : ∀ (m j : Nat) (τ : St), j + m = nB w → MH n σ τ →
          gG τ 77 20 = gG σ 77 20 + sumL ((mem (cmp w L) j).map cc) →
          gG τ 77 21 = (if mfold ((mem (cmp w L) j).map cd) = -5 then gG σ 77 21 else min (gG σ 77 21) (so + mfold ((mem (cmp w L) j).map cd))) →
          gG τ 77 23 = (if mfold ((mem (cmp w L) j).map cd) ≠ -5 ∧ so + mfold ((mem (cmp w L) j).map cd) < gG σ 77 21 then ((l ++ hb2 cd (mem (cmp w L) j) :: hA w r K (drp rem (hb2 cd (mem (cmp w L) j))) (eW w L + wid w (hb2 cd (mem (cmp w L) j)))).length : Int) else gG σ 77 23) →
          gG τ 77 22 = (if mfold ((mem (cmp w L) j).map cd) ≠ -5 ∧ so + mfold ((mem (cmp w L) j).map cd) < gG σ 77 21 then dg 0 (l ++ hb2 cd (mem (cmp w L) j) :: hA w r K (drp rem (hb2 cd (mem (cmp w L) j))) (eW w L + wid w (hb2 cd (mem (cmp w L) j)))) else gG σ 77 22) →
          V g mX12_goesOn (rmD (2 + (K + 1)) 0 0) (QM g 0 0 (PGO w r (K + 1) (remL w L) l n (eW w L) so σ)) 84 [some (vq (some 77)), some (vi r), some (vi (L : Int)), some (vi (n : Int)), some (vi (eW w L)), some (vi so), some (vi (j : Int))] [] 0 0 τ := by
        intro m
        induction m with
        | zero =>
          intro j τ hj hF i20 i21 i23 i22
          have ej : j = nB w := by omega
          subst ej
          have em : mem (cmp w L) (nB w) = rem := hrem.symm
          rw [em] at i20 i21 i23 i22
          have hXt := hF.ms.mx hX
          obtain ⟨hS, h78, -⟩ := hXt
          refine V_iload dX12_goesOn_84 rfl ?_
          refine V_aload_n dX12_goesOn_86 rfl ?_
          refine V_getfr dX12_goesOn_87 sf_RX12_9 (by decide) (sh hS rfl) (rf hS rfl) ?_
          refine V_bipush dX12_goesOn_90 (by decide) ?_
          refine V_iald dX12_goesOn_92 (sh hS rfl) (by omega) ?_
          refine V_val (mw h78 (k := 6) rfl) ?_
          refine V_icmpge (tgt := 162) dX12_goesOn_93 (by decide) (by omega) (by omega) (fun br93 => ?_) (fun br93 => ?_)
          · refine V_vret dX12_goesOn_162 rfl (Nat.le_refl _) (Nat.le_refl _) ?_
            unfold PGO GO
            rw [← hrem, e1, e2, e3]
            exact ⟨rfl, hF, i20, i21, i23, i22⟩
          · omega
        | succ m ih =>
          intro j τ hj hF i20 i21 i23 i22
          have hXt := hF.ms.mx hX
          obtain ⟨hS, h78, -⟩ := id hXt
          have hbt := bt_nat L j
          unfold bt at hbt
          rw [Int.toNat_natCast] at hbt
          have ems := cmp_s (w := w) hL (show j < nB w by omega)
          by_cases hb : L.testBit j = true
          · have em : mem (cmp w L) (j + 1) = mem (cmp w L) j := by rw [ems, if_pos hb, List.append_nil]
            have q := ih (j + 1) τ (by omega) hF (by rw [em]; exact i20) (by rw [em]; exact i21) (by rw [em]; exact i23) (by rw [em]; exact i22)
            refine V_iload dX12_goesOn_84 rfl ?_
            refine V_aload_n dX12_goesOn_86 rfl ?_
            refine V_getfr dX12_goesOn_87 sf_RX12_9 (by decide) (sh hS rfl) (rf hS rfl) ?_
            refine V_bipush dX12_goesOn_90 (by decide) ?_
            refine V_iald dX12_goesOn_92 (sh hS rfl) (by omega) ?_
            refine V_val (mw h78 (k := 6) rfl) ?_
            refine V_icmpge (tgt := 162) dX12_goesOn_93 (by decide) (by omega) (by omega) (fun br93 => ?_) (fun br93 => ?_)
            · omega
            · refine V_iload_n dX12_goesOn_96 rfl ?_
              refine V_iload dX12_goesOn_97 rfl ?_
              refine V_ishr dX12_goesOn_99 (by omega) ?_
              refine V_iconst dX12_goesOn_100 ?_
              refine V_iand1 dX12_goesOn_101 ?_
              refine V_iconst dX12_goesOn_102 ?_
              rw [Int.toNat_natCast]
              refine V_icmpne (tgt := 109) dX12_goesOn_103 (by decide) (by omega) (by omega) (fun br103 => ?_) (fun br103 => ?_)
              · exact absurd (hbt.mpr hb) (by omega)
              · refine V_goto (tgt := 156) dX12_goesOn_106 (by decide) ?_
                refine V_iinc dX12_goesOn_156 rfl (by decide) rfl ?_
                refine V_goto (tgt := 84) dX12_goesOn_159 (by decide) ?_
                refine V_mask [true, true, true, true, true, true, true] ?_
                exact q
          · have em : mem (cmp w L) (j + 1) = mem (cmp w L) j ++ [j] := by rw [ems, if_neg hb]
            have hjr : j ∈ rem := by rw [hrem]; exact (rem_in hL).mpr ⟨by omega, hb⟩
            have hsub : ∀ t ∈ mem (cmp w L) j, t ∈ rem := fun t ht => by rw [hrem]; exact mem_sub ht (by omega)
            have ra := rem_add hw hL (x := j) (by omega) hb
            have wb := wid_b hw (show j < nB w by omega)
            have sb := hsp j hjr
            have mx := hMx j hjr
            have ce := cde j hjr
            have mfb : mfold ((mem (cmp w L) j).map cd) = -5 ∨ (0 ≤ mfold ((mem (cmp w L) j).map cd) ∧ mfold ((mem (cmp w L) j).map cd) ≤ 40000 * (K + 1)) := by
              rcases mfold_or ((mem (cmp w L) j).map cd) with z | z
              · exact Or.inl z
              · obtain ⟨t, ht, e⟩ := List.mem_map.mp z
                rw [← e]
                exact cdb t (hsub t ht)
            have hF2 : MH n σ (setG τ 86 n (j : Int)) := hF.on86 _ (Nat.le_refl _)
            have hX2 := hF2.ms.mx hX
            have t20 : gG (setG τ 86 n (j : Int)) 77 20 = gG τ 77 20 := gG_ne _ _ (Or.inl (by decide))
            have t21 : gG (setG τ 86 n (j : Int)) 77 21 = gG τ 77 21 := gG_ne _ _ (Or.inl (by decide))
            have t22 : gG (setG τ 86 n (j : Int)) 77 22 = gG τ 77 22 := gG_ne _ _ (Or.inl (by decide))
            have t23 : gG (setG τ 86 n (j : Int)) 77 23 = gG τ 77 23 := gG_ne _ _ (Or.inl (by decide))
            have ub : 0 ≤ gG τ 77 21 ∧ gG τ 77 21 ≤ 1000000000 := by
              rw [i21]
              split <;> omega
            have C := IH (n + 1) (setG τ 86 n (j : Int)) (L + 2 ^ j) (l ++ [j]) (so + spt r (wid w j) (eW w L)) hX2 (by rw [List.length_append, hl]; rfl) (by omega) ra.1 (by omega) (fun i hi => by
              by_cases q : i = n
              · subst q
                rw [getD_ap2 hl]
                exact gG_is _ _ _ _
              · rw [getD_ap1 (by omega)]
                exact (hF2.2.2.2 i (by omega)).trans (hrow i (by omega))) (by omega) (by rw [t21]; exact ub)
            have hzT : ∀ t ∈ mem (cmp w L) j, cd t = -5 ∨ 0 ≤ cd t := fun t ht => by have := cdb t (hsub t ht); omega
            have u21v : (mfold ((mem (cmp w L) j).map cd) = -5 → gG τ 77 21 = gG σ 77 21) ∧ (mfold ((mem (cmp w L) j).map cd) ≠ -5 → gG τ 77 21 = min (gG σ 77 21) (so + mfold ((mem (cmp w L) j).map cd))) := ⟨fun z => by rw [i21, if_pos z], fun z => by rw [i21, if_neg z]⟩
            have key1 : (hM w r K (drp rem j) (eW w L + wid w j) ≠ -5 ∧ so + spt r (wid w j) (eW w L) + hM w r K (drp rem j) (eW w L + wid w j) < gG τ 77 21) → stpM (mfold ((mem (cmp w L) j).map cd)) (cd j) = cd j ∧ (stpM (mfold ((mem (cmp w L) j).map cd)) (cd j) ≠ -5 ∧ so + stpM (mfold ((mem (cmp w L) j).map cd)) (cd j) < gG σ 77 21) ∧ hb2 cd (mem (cmp w L) j ++ [j]) = j := fun q => by
              have c2 := ce.2 q.1
              have hc : mfold ((mem (cmp w L) j).map cd) = -5 ∨ cd j < mfold ((mem (cmp w L) j).map cd) := by
                by_cases z : mfold ((mem (cmp w L) j).map cd) = -5
                · exact Or.inl z
                · have := u21v.2 z; omega
              have hne : cd j ≠ -5 := by omega
              have e : stpM (mfold ((mem (cmp w L) j).map cd)) (cd j) = cd j := if_pos ⟨hne, hc⟩
              rw [e]
              refine ⟨rfl, ⟨hne, ?_⟩, hb2_new hzT hne hc⟩
              by_cases z : mfold ((mem (cmp w L) j).map cd) = -5
              · have := u21v.1 z; omega
              · have := u21v.2 z; omega
            have key2 : ¬ (hM w r K (drp rem j) (eW w L + wid w j) ≠ -5 ∧ so + spt r (wid w j) (eW w L) + hM w r K (drp rem j) (eW w L + wid w j) < gG τ 77 21) → ((stpM (mfold ((mem (cmp w L) j).map cd)) (cd j) ≠ -5 ∧ so + stpM (mfold ((mem (cmp w L) j).map cd)) (cd j) < gG σ 77 21) ↔ (mfold ((mem (cmp w L) j).map cd) ≠ -5 ∧ so + mfold ((mem (cmp w L) j).map cd) < gG σ 77 21)) ∧ ((mfold ((mem (cmp w L) j).map cd) ≠ -5 ∧ so + mfold ((mem (cmp w L) j).map cd) < gG σ 77 21) → hb2 cd (mem (cmp w L) j ++ [j]) = hb2 cd (mem (cmp w L) j)) := fun q => by
              by_cases h : cd j ≠ -5 ∧ (mfold ((mem (cmp w L) j).map cd) = -5 ∨ cd j < mfold ((mem (cmp w L) j).map cd))
              · have e : stpM (mfold ((mem (cmp w L) j).map cd)) (cd j) = cd j := if_pos h
                have hm : hM w r K (drp rem j) (eW w L + wid w j) ≠ -5 := fun z => h.1 (ce.1 z)
                have c2 := ce.2 hm
                have hge : ¬ so + spt r (wid w j) (eW w L) + hM w r K (drp rem j) (eW w L + wid w j) < gG τ 77 21 := fun z => q ⟨hm, z⟩
                have hno : ¬ (so + cd j < gG σ 77 21) := fun z => by
                  by_cases y : mfold ((mem (cmp w L) j).map cd) = -5
                  · have := u21v.1 y; omega
                  · have := u21v.2 y; omega
                rw [e]
                refine ⟨⟨fun z => absurd z.2 hno, fun z => ?_⟩, fun z => ?_⟩
                · exfalso; omega
                · exfalso; omega
              · have e : stpM (mfold ((mem (cmp w L) j).map cd)) (cd j) = mfold ((mem (cmp w L) j).map cd) := if_neg h
                rw [e]
                exact ⟨Iff.rfl, fun z => hb2_old z.1 h⟩
            unfold PGO GO at C
            rw [ra.2.1, ra.2.2.1, ← hrem, t20, t21, t22, t23] at C
            refine V_iload dX12_goesOn_84 rfl ?_
            refine V_aload_n dX12_goesOn_86 rfl ?_
            refine V_getfr dX12_goesOn_87 sf_RX12_9 (by decide) (sh hS rfl) (rf hS rfl) ?_
            refine V_bipush dX12_goesOn_90 (by decide) ?_
            refine V_iald dX12_goesOn_92 (sh hS rfl) (by omega) ?_
            refine V_val (mw h78 (k := 6) rfl) ?_
            refine V_icmpge (tgt := 162) dX12_goesOn_93 (by decide) (by omega) (by omega) (fun br93 => ?_) (fun br93 => ?_)
            · omega
            · refine V_iload_n dX12_goesOn_96 rfl ?_
              refine V_iload dX12_goesOn_97 rfl ?_
              refine V_ishr dX12_goesOn_99 (by omega) ?_
              refine V_iconst dX12_goesOn_100 ?_
              refine V_iand1 dX12_goesOn_101 ?_
              refine V_iconst dX12_goesOn_102 ?_
              rw [Int.toNat_natCast]
              refine V_icmpne (tgt := 109) dX12_goesOn_103 (by decide) (by omega) (by omega) (fun br103 => ?_) (fun br103 => ?_)
              · refine V_aload_n dX12_goesOn_109 rfl ?_
                refine V_getfr dX12_goesOn_110 sf_RX12_36 (by decide) (sh hS rfl) (rf hS rfl) ?_
                refine V_iload_n dX12_goesOn_113 rfl ?_
                refine V_iload dX12_goesOn_114 rfl ?_
                refine V_iast dX12_goesOn_116 (sh hS rfl) (by omega) ?_
                refine V_aload_n dX12_goesOn_117 rfl ?_
                refine V_iload_n dX12_goesOn_118 rfl ?_
                refine V_iload_n dX12_goesOn_119 rfl ?_
                refine V_iconst dX12_goesOn_120 ?_
                refine V_iload dX12_goesOn_121 rfl ?_
                refine V_ishl dX12_goesOn_123 (by omega) ?_
                refine V_ior dX12_goesOn_124 ?_
                refine V_val (ior_at (by omega) (by omega) hb) ?_
                refine V_iload_n dX12_goesOn_125 rfl ?_
                refine V_iconst dX12_goesOn_126 ?_
                refine V_iadd dX12_goesOn_127 ?_
                refine V_val (show (n : Int) + 1 = ((n + 1 : Nat) : Int) by omega) ?_
                refine V_iload dX12_goesOn_128 rfl ?_
                refine V_aload_n dX12_goesOn_130 rfl ?_
                refine V_getfr dX12_goesOn_131 sf_RX12_9 (by decide) (sh hS rfl) (rf hS rfl) ?_
                refine V_bipush dX12_goesOn_134 (by decide) ?_
                refine V_iload dX12_goesOn_136 rfl ?_
                refine V_iadd dX12_goesOn_138 ?_
                refine V_iald dX12_goesOn_139 (sh hS rfl) (by omega) ?_
                refine V_val (show _ = wid w j from mw (hX2.2.1) (k := 70 + j) (by omega)) ?_
                refine V_iadd dX12_goesOn_140 ?_
                refine V_val (show eW w L + wid w j = eW w (L + 2 ^ j) from ra.2.2.1.symm) ?_
                refine V_iload dX12_goesOn_141 rfl ?_
                refine V_aload_n dX12_goesOn_143 rfl ?_
                refine V_iload_n dX12_goesOn_144 rfl ?_
                refine V_iload dX12_goesOn_145 rfl ?_
                refine V_iload dX12_goesOn_147 rfl ?_
                refine V_callV dX12_goesOn_149 (c_mUsedBy g _ w hX2 r hr j (by omega) (eW w L) (by omega)) sv_RX12_197 (sh hX2.1 rfl) rfl (cr0 (by omega)) (Nat.le_of_ble_eq_true rfl) (fun r149 s149 p149 => ?_)
                obtain ⟨rfl, rfl⟩ := p149
                rw [ra.2.2.1]
                refine V_iadd dX12_goesOn_152 ?_
                refine V_callV dX12_goesOn_153 C sv_RX12_201 (sh hX2.1 rfl) rfl (cr0 (by omega)) (Nat.le_of_ble_eq_true rfl) (fun r153 s153 p153 => ?_)
                obtain ⟨rfl, hG, u20, u21, u23, u22⟩ := p153
                refine V_iinc dX12_goesOn_156 rfl (by decide) rfl ?_
                refine V_goto (tgt := 84) dX12_goesOn_159 (by decide) ?_
                refine V_mask [true, true, true, true, true, true, true] ?_
                have e4 : mfold ((mem (cmp w L) j).map cd ++ [cd j]) = stpM (mfold ((mem (cmp w L) j).map cd)) (cd j) := mfold_app _ _
                refine ih (j + 1) _ (by omega) (hF2.tr hG (by omega)) ?_ ?_ ?_ ?_
                · rw [u20, i20, em, List.map_append]
                  show _ = _ + sumL ((mem (cmp w L) j).map cc ++ [cc j])
                  rw [sumL_app]
                  have e : cc j = hC w r K (drp rem j) (eW w L + wid w j) := by rw [hcc]
                  rw [e]; omega
                · rw [u21, i21, em, List.map_append]
                  show _ = if mfold ((mem (cmp w L) j).map cd ++ [cd j]) = -5 then _ else min _ (so + mfold ((mem (cmp w L) j).map cd ++ [cd j]))
                  rw [e4]
                  unfold stpM
                  by_cases z : hM w r K (drp rem j) (eW w L + wid w j) = -5
                  · rw [if_pos z, ce.1 z]
                    rw [if_neg (show ¬ ((-5 : Int) ≠ -5 ∧ (mfold ((mem (cmp w L) j).map cd) = -5 ∨ -5 < mfold ((mem (cmp w L) j).map cd))) from fun y => y.1 rfl)]
                  · rw [if_neg z, ce.2 z]
                    split <;> (repeat' split) <;> omega
                · rw [u23, i23, em, List.map_append]
                  show _ = if mfold ((mem (cmp w L) j).map cd ++ [cd j]) ≠ -5 ∧ so + mfold ((mem (cmp w L) j).map cd ++ [cd j]) < _ then _ else _
                  rw [e4]
                  by_cases q : hM w r K (drp rem j) (eW w L + wid w j) ≠ -5 ∧ so + spt r (wid w j) (eW w L) + hM w r K (drp rem j) (eW w L + wid w j) < gG τ 77 21
                  · obtain ⟨k1, k2, k3⟩ := key1 q
                    rw [if_pos q, if_pos k2, k3, List.append_assoc]
                    rfl
                  · obtain ⟨k1, k2⟩ := key2 q
                    rw [if_neg q]
                    by_cases z : mfold ((mem (cmp w L) j).map cd) ≠ -5 ∧ so + mfold ((mem (cmp w L) j).map cd) < gG σ 77 21
                    · rw [if_pos z, if_pos (k1.mpr z), k2 z]
                    · rw [if_neg z, if_neg (fun y => z (k1.mp y))]
                · rw [u22, i22, em, List.map_append]
                  show _ = if mfold ((mem (cmp w L) j).map cd ++ [cd j]) ≠ -5 ∧ so + mfold ((mem (cmp w L) j).map cd ++ [cd j]) < _ then _ else _
                  rw [e4]
                  by_cases q : hM w r K (drp rem j) (eW w L + wid w j) ≠ -5 ∧ so + spt r (wid w j) (eW w L) + hM w r K (drp rem j) (eW w L + wid w j) < gG τ 77 21
                  · obtain ⟨k1, k2, k3⟩ := key1 q
                    rw [if_pos q, if_pos k2, k3, List.append_assoc]
                    rfl
                  · obtain ⟨k1, k2⟩ := key2 q
                    rw [if_neg q]
                    by_cases z : mfold ((mem (cmp w L) j).map cd) ≠ -5 ∧ so + mfold ((mem (cmp w L) j).map cd) < gG σ 77 21
                    · rw [if_pos z, if_pos (k1.mpr z), k2 z]
                    · rw [if_neg z, if_neg (fun y => z (k1.mp y))]
              · exact absurd (hbt.mp (by omega)) hb
      refine V_iload dX12_goesOn_0 rfl ?_
      refine V_iconst dX12_goesOn_2 ?_
      refine V_iload_n dX12_goesOn_3 rfl ?_
      refine V_imul dX12_goesOn_4 ?_
      refine V_icmplt (tgt := 81) dX12_goesOn_5 (by decide) (by omega) (by omega) (fun br5 => ?_) (fun br5 => ?_)
      · refine V_iconst dX12_goesOn_81 ?_
        refine V_istore dX12_goesOn_82 (by decide) rfl ?_
        refine V_mask [true, true, true, true, true, true, true] ?_
        have e0 : mem (cmp w L) 0 = [] := rfl
        refine loop (nB w) 0 σ (Nat.zero_add _) (MH.rf _ _) ?_ ?_ ?_ ?_
        · rw [e0]
          show _ = _ + 0
          omega
        · rw [e0]; exact (if_pos rfl).symm
        · rw [e0]; exact (if_neg (fun z => z.1 rfl)).symm
        · rw [e0]; exact (if_neg (fun z => z.1 rfl)).symm
      · omega