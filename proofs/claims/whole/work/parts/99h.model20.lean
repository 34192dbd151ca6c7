/-! the model's questions about heads -/
theorem mfold_5 {l : List Int} (h : ∀ z ∈ l, z = -5) : mfold l = -5 := by
  rcases mfold_or l with q | q
  · exact q
  · exact h _ q
theorem sumL_nn : ∀ {l : List Int}, (∀ z ∈ l, 0 ≤ z) → 0 ≤ sumL l ∧ ∀ z ∈ l, z ≤ sumL l
  | [], _ => ⟨Int.le_refl _, fun z hz => by cases hz⟩
  | a :: t, h => by
    have ha := h a List.mem_cons_self
    have ih := sumL_nn (l := t) (fun z hz => h z (List.mem_cons_of_mem _ hz))
    have e : sumL (a :: t) = a + sumL t := rfl
    rw [e]
    refine ⟨by omega, fun z hz => ?_⟩
    rcases List.mem_cons.mp hz with q | q
    · omega
    · have := ih.2 z q; omega
theorem hM_hC {w : Nat → Int} (hW : WF w) {r : Int} (hr : 1 ≤ r ∧ r ≤ 200) : ∀ (k : Nat) (l : List Nat) (s : Int), (∀ x ∈ l, x < nB w) → 0 ≤ s → 0 ≤ hC w r k l s ∧ (hC w r k l s = 0 ↔ hM w r k l s = -5)
  | 0, l, s, _, _ => by
    unfold hC hM
    split
    · exact ⟨by decide, by decide⟩
    · exact ⟨by decide, by decide⟩
  | k + 1, l, s, hl, hs => by
    unfold hC hM
    by_cases hd : 2 * r ≤ s
    · rw [if_pos hd, if_pos hd]
      exact ⟨by decide, by decide⟩
    · rw [if_neg hd, if_neg hd]
      have ih : ∀ x ∈ l, 0 ≤ hC w r k (drp l x) (s + wid w x) ∧ (hC w r k (drp l x) (s + wid w x) = 0 ↔ hM w r k (drp l x) (s + wid w x) = -5) := fun x hx => by
        have wb := wid_b hW (hl x hx)
        exact hM_hC hW hr k (drp l x) (s + wid w x) (fun y hy => hl y (drp_sub hy)) (by omega)
      have hb : ∀ x ∈ l, plusN (spt r (wid w x) s) (hM w r k (drp l x) (s + wid w x)) = -5 ∨ 0 ≤ plusN (spt r (wid w x) s) (hM w r k (drp l x) (s + wid w x)) := fun x hx => by
        have wb := wid_b hW (hl x hx)
        have a := hM_b hW hr k (drp l x) (s + wid w x) (fun y hy => hl y (drp_sub hy)) (by omega)
        have b := spt_b (wd := wid w x) hr (s := s) (by omega) (by omega)
        unfold plusN
        split <;> omega
      have he : ∀ x ∈ l, plusN (spt r (wid w x) s) (hM w r k (drp l x) (s + wid w x)) = -5 ↔ hM w r k (drp l x) (s + wid w x) = -5 := fun x hx => by
        have wb := wid_b hW (hl x hx)
        have a := hM_b hW hr k (drp l x) (s + wid w x) (fun y hy => hl y (drp_sub hy)) (by omega)
        have b := spt_b (wd := wid w x) hr (s := s) (by omega) (by omega)
        unfold plusN
        split <;> omega
      have nn := sumL_nn (l := l.map fun x => hC w r k (drp l x) (s + wid w x)) (fun z hz => by
        obtain ⟨x, hx, rfl⟩ := List.mem_map.mp hz
        exact (ih x hx).1)
      refine ⟨nn.1, fun h => ?_, fun h => ?_⟩
      · refine mfold_5 (fun z hz => ?_)
        obtain ⟨x, hx, rfl⟩ := List.mem_map.mp hz
        have q1 := nn.2 _ (List.mem_map.mpr ⟨x, hx, rfl⟩)
        have q2 := (ih x hx).1
        exact (he x hx).mpr ((ih x hx).2.mp (by omega))
      · refine sumL_0 (fun x hx => ?_)
        refine (ih x hx).2.mpr ((he x hx).mp ?_)
        by_cases q : plusN (spt r (wid w x) s) (hM w r k (drp l x) (s + wid w x)) = -5
        · exact q
        · have := mfold_le (l.map fun x => plusN (spt r (wid w x) s) (hM w r k (drp l x) (s + wid w x))) _ (List.mem_map.mpr ⟨x, hx, rfl⟩) q (fun z hz => by
            obtain ⟨y, hy, rfl⟩ := List.mem_map.mp hz
            exact hb y hy)
          exact absurd h this.1
theorem hA_ok {w : Nat → Int} {r : Int} : ∀ (k : Nat) (l : List Nat) (s : Int), (∀ x ∈ l, x < 9) → (hA w r k l s).length ≤ k ∧ ∀ x ∈ hA w r k l s, x < 9
  | 0, _, _, _ => ⟨Nat.le_refl _, fun x hx => by cases hx⟩
  | k + 1, l, s, h => by
    unfold hA
    split
    · exact ⟨Nat.zero_le _, fun x hx => by cases hx⟩
    · have ih := hA_ok (w := w) (r := r) k (drp l (hN w r k l s)) (s + wid w (hN w r k l s)) (fun x hx => h x (drp_sub hx))
      refine ⟨Nat.succ_le_succ ih.1, fun x hx => ?_⟩
      rcases List.mem_cons.mp hx with q | q
      · rw [q]; exact hN_lt h
      · exact ih.2 x q
theorem dg_nn : ∀ (l : List Nat) (d : Int), 0 ≤ d → 0 ≤ dg d l
  | [], _, h => h
  | x :: t, d, h => dg_nn t _ (by omega)
theorem digN_dg : ∀ (m : Nat) (l : List Nat), l.length ≤ m → (∀ x ∈ l, x < 9) → (digN m (dg 0 l)).length = l.length
  | 0, l, h, _ => by
    have : l = [] := List.length_eq_zero_iff.mp (by omega)
    subst this; rfl
  | m + 1, l, h, hx => by
    rcases List.eq_nil_or_concat l with e | ⟨t, x, e⟩
    · subst e; rfl
    · subst e
      rw [List.concat_eq_append] at h hx ⊢
      have hxx : x < 9 := hx x (List.mem_append_right _ List.mem_cons_self)
      have hn := dg_nn t 0 (Int.le_refl _)
      rw [dg_app, digN_m (by omega), List.length_cons, List.length_append, show (dg 0 t * 10 + (x : Int) + 1) / 10 = dg 0 t by omega, digN_dg m t (by rw [List.length_append] at h; have : [x].length = 1 := rfl; omega) (fun y hy => hx y (List.mem_append_left _ hy))]
      rfl
theorem rem0 (w : Nat → Int) : (remL w 0).length = nB w ∧ eW w 0 = 0 := by
  refine ⟨?_, sumB_0 _ _⟩
  have e : remL w 0 = List.range (nB w) := by
    unfold remL mem
    rw [List.filter_eq_self]
    intro x hx
    rw [cmp_bit (Nat.two_pow_pos _), decide_eq_true (List.mem_range.mp hx), Nat.zero_testBit]; rfl
  rw [e, List.length_range]
def SW (w : Nat → Int) (r : Int) (τ : St) : Prop := gG τ 77 20 = tvC w r 0 ∧ (tvM w r 0 ≠ -5 → gG τ 77 21 = tvM w r 0 ∧ gG τ 77 23 = ((digs (hDig w r)).length : Int) ∧ gG τ 77 22 = hDig w r)
theorem c_mSaws (g : Gl) (σ : St) (w : Nat → Int) (hX : MX σ w) (r : Int) (hr : 1 ≤ r ∧ r ≤ 200) : Ct g mX12_saws 10 0 0 [vq (some 77), vi r] σ (fun q τ => q = none ∧ MS σ τ ∧ SW w r τ) := by
  refine Ct.of (by decide +kernel) (Nat.le_of_ble_eq_true rfl) ?_
  have hX0 := hX
  have hw := hX.2.2
  have hS := hX.1
  have hNb := wf_nB hw
  have r0 := rem0 w
  have hM1 : MS σ (setG (setG σ 77 20 0) 77 21 1000000000) := ((MS.rf σ).on77 _ (by decide)).on77 _ (by decide)
  have hX1 := hM1.mx hX0
  have C := c_mGoesOn g w r hr (nB w) 0 (setG (setG σ 77 20 0) 77 21 1000000000) 0 [] 0 hX1 rfl (by omega) (Nat.two_pow_pos _) r0.1 (fun j hj => absurd hj (Nat.not_lt_zero j)) (by omega) ⟨(by decide : (0 : Int) ≤ 1000000000), (by decide : (1000000000 : Int) ≤ 1000000000)⟩
  have eM : tvM w r 0 = hM w r (nB w) (remL w 0) (eW w 0) := by unfold tvM; rw [r0.1]
  have eC : tvC w r 0 = hC w r (nB w) (remL w 0) (eW w 0) := by unfold tvC; rw [r0.1]
  have eD : hDig w r = dg 0 (hA w r (nB w) (remL w 0) (eW w 0)) := by unfold hDig; rw [r0.1]
  have hlt : ∀ x ∈ remL w 0, x < nB w := fun x hx => ((rem_in (Nat.two_pow_pos _)).mp hx).1
  have hMb := hM_b hw hr (nB w) (remL w 0) (eW w 0) hlt (by omega)
  have hok := hA_ok (w := w) (r := r) (nB w) (remL w 0) (eW w 0) (fun x hx => by have := hlt x hx; omega)
  have hdl : ((digs (hDig w r)).length : Int) = ((hA w r (nB w) (remL w 0) (eW w 0)).length : Int) := by
    rw [eD]
    unfold digs
    rw [digN_dg 10 _ (by omega) hok.2]
  refine V_aload_n dX12_saws_0 rfl ?_
  refine V_iconst dX12_saws_1 ?_
  refine V_puti dX12_saws_2 (sp_RX12_185 _) rfl (sh hS rfl) ?_
  refine V_aload_n dX12_saws_5 rfl ?_
  refine V_ldc (z := 1000000000) dX12_saws_6 sk_RX12_120 ?_
  refine V_puti dX12_saws_8 (sp_RX12_188 _) rfl (sh hS rfl) ?_
  refine V_aload_n dX12_saws_11 rfl ?_
  refine V_iload_n dX12_saws_12 rfl ?_
  refine V_iconst dX12_saws_13 ?_
  refine V_iconst dX12_saws_14 ?_
  refine V_iconst dX12_saws_15 ?_
  refine V_iconst dX12_saws_16 ?_
  have e0 : eW w 0 = 0 := r0.2
  rw [e0] at C
  refine V_callV dX12_saws_17 C sv_RX12_201 (sh hS rfl) rfl (cr0 (by omega)) (Nat.le_of_ble_eq_true rfl) (fun r17 s17 p17 => ?_)
  obtain ⟨rfl, hG, u20, u21, u23, u22⟩ := p17
  refine V_vret dX12_saws_20 rfl (Nat.le_refl _) (Nat.le_refl _) ?_
  refine ⟨rfl, hM1.tr hG.ms, ?_, fun hne => ?_⟩
  · rw [u20, eC, r0.2]
    show 0 + _ = _
    rw [Int.zero_add]
  · rw [r0.2] at eM eD hMb hdl
    rw [eM] at hne
    have hcnd : hM w r (nB w) (remL w 0) 0 ≠ -5 ∧ 0 + hM w r (nB w) (remL w 0) 0 < gG (setG (setG σ 77 20 0) 77 21 1000000000) 77 21 := ⟨hne, (show 0 + hM w r (nB w) (remL w 0) 0 < 1000000000 by omega)⟩
    refine ⟨?_, ?_, ?_⟩
    · rw [u21, if_neg hne, eM]
      show min 1000000000 (0 + hM w r (nB w) (remL w 0) 0) = _
      omega
    · rw [u23, if_pos hcnd, hdl]; rfl
    · rw [u22, if_pos hcnd, eD]; rfl
theorem c_mHeads (g : Gl) (σ : St) (w : Nat → Int) (hX : MX σ w) (r : Int) (hr : inR r) : Ct g mX12_heads 11 0 0 [vq (some 77), vi r] σ (PMS (headsA w r) σ) := by
  refine Ct.of (by decide +kernel) (Nat.le_of_ble_eq_true rfl) ?_
  have hX0 := hX
  have hS := hX.1
  refine V_iload_n dX12_heads_0 rfl ?_
  refine V_iconst dX12_heads_1 ?_
  refine V_sipush dX12_heads_2 (by decide) ?_
  refine V_callS dX12_heads_5 (c_within g _ _ _ _ (by omega) (by omega) (by omega)) ss_RX12_58 rfl ⟨⟨by decide, by decide⟩, ⟨by decide, by decide⟩⟩ (Nat.le_of_ble_eq_true rfl) (fun r5 s5 p5 => ?_)
  obtain ⟨rfl, rfl⟩ := p5
  refine V_ifneB (tgt := 14) dX12_heads_8 (by decide) (fun br8 => ?_) (fun br8 => ?_)
  · refine V_aload_n dX12_heads_14 rfl ?_
    refine V_iload_n dX12_heads_15 rfl ?_
    refine V_callV dX12_heads_16 (c_mSaws g _ w hX0 r br8) sv_RX12_205 (sh hS rfl) rfl ⟨⟨by decide, by decide⟩, ⟨by decide, by decide⟩⟩ (Nat.le_of_ble_eq_true rfl) (fun r16 s16 p16 => ?_)
    obtain ⟨rfl, hF, hR⟩ := p16
    have hS := hF.std hS
    refine V_aload_n dX12_heads_19 rfl ?_
    refine V_getfi dX12_heads_20 sf_RX12_185 rfl (sh hS rfl) ?_
    refine V_iret dX12_heads_23 rfl (Nat.le_refl _) (Nat.le_refl _) ?_
    exact PMS_i (hR.1.trans (if_pos br8).symm) hF
  · refine V_bipush dX12_heads_11 (by decide) ?_
    refine V_iret dX12_heads_13 rfl (Nat.le_refl _) (Nat.le_refl _) ?_
    exact PMS_i (if_neg br8).symm (MS.rf _)
theorem hC_b8 {w : Nat → Int} {r : Int} : ∀ (k : Nat) (l : List Nat) (s : Int), l.length ≤ 8 → 0 ≤ hC w r k l s ∧ hC w r k l s ≤ 8 ^ k
  | 0, l, s, _ => by
    unfold hC
    split <;> decide
  | k + 1, l, s, hl => by
    have p1 : (1 : Int) ≤ 8 ^ k := by
      have := Int.ofNat_le.mpr (Nat.one_le_pow k 8 (by decide))
      rw [Int.natCast_pow] at this
      exact this
    have e : (8 : Int) ^ (k + 1) = 8 * 8 ^ k := by rw [Int.pow_succ]; omega
    unfold hC
    split
    · omega
    · have key : ∀ t : List Nat, t.length ≤ 8 → 0 ≤ sumL (t.map fun x => hC w r k (drp l x) (s + wid w x)) ∧ sumL (t.map fun x => hC w r k (drp l x) (s + wid w x)) ≤ t.length * 8 ^ k := by
        intro t
        induction t with
        | nil => intro _; exact ⟨Int.le_refl _, by simp [sumL]⟩
        | cons a t ih =>
          intro ht
          have h1 := ih (by simp at ht; omega)
          have h2 := hC_b8 (w := w) (r := r) k (drp l a) (s + wid w a) (Nat.le_trans (List.length_filter_le _ _) hl)
          show 0 ≤ hC w r k (drp l a) (s + wid w a) + sumL _ ∧ hC w r k (drp l a) (s + wid w a) + sumL _ ≤ ((t.length + 1 : Nat) : Int) * 8 ^ k
          have e : ((t.length + 1 : Nat) : Int) * 8 ^ k = t.length * 8 ^ k + 8 ^ k := by rw [Int.natCast_add, Int.add_mul]; simp
          omega
      have h := key l hl
      have h2 : (l.length : Int) * 8 ^ k ≤ 8 * 8 ^ k := Int.mul_le_mul_of_nonneg_right (by omega) (Int.pow_nonneg (by decide))
      omega
theorem tvC_r {w : Nat → Int} (hw : WF w) (r : Int) : inR (tvC w r 0) := by
  have hNb := wf_nB hw
  have r0 := rem0 w
  have b := hC_b8 (w := w) (r := r) (remL w 0).length (remL w 0) (eW w 0) (by omega)
  have d : (8 : Int) ^ (remL w 0).length ≤ 8 ^ 7 := by
    have := Int.ofNat_le.mpr (Nat.pow_le_pow_right (show 0 < 8 by decide) (show (remL w 0).length ≤ 7 by omega))
    rw [Int.natCast_pow, Int.natCast_pow] at this
    exact this
  have e7 : (8 : Int) ^ 7 = 2097152 := by decide
  unfold tvC
  omega
theorem c_mHead (g : Gl) (σ : St) (w : Nat → Int) (hX : MX σ w) (r what : Int) (h1 : inR r) (h2 : inR what) : Ct g mX12_head 11 0 0 [vq (some 77), vi r, vi what] σ (PMS (headA w r what) σ) := by
  refine Ct.of (by decide +kernel) (Nat.le_of_ble_eq_true rfl) ?_
  have hX0 := hX
  have hw := hX.2.2
  have hS := hX.1
  have hNb := wf_nB hw
  have r0 := rem0 w
  by_cases hq : (1 ≤ r ∧ r ≤ 200) ∧ (0 ≤ what ∧ what ≤ 2)
  · have hlt : ∀ x ∈ remL w 0, x < nB w := fun x hx => ((rem_in (Nat.two_pow_pos _)).mp hx).1
    have hc := hM_hC hw hq.1 (remL w 0).length (remL w 0) (eW w 0) hlt (by omega)
    have hc2 : 0 ≤ tvC w r 0 ∧ (tvC w r 0 = 0 ↔ tvM w r 0 = -5) := hc
    have cb : inR (tvC w r 0) ∨ True := Or.inr trivial
    have eV : headA w r what = if tvM w r 0 = -5 ∨ what = 0 then tvM w r 0 else if what = 1 then ((digs (hDig w r)).length : Int) else hDig w r := if_pos hq
    rw [eV]
    refine V_iload_n dX12_head_0 rfl ?_
    refine V_iconst dX12_head_1 ?_
    refine V_sipush dX12_head_2 (by decide) ?_
    refine V_callS dX12_head_5 (c_within g _ _ _ _ (by omega) (by omega) (by omega)) ss_RX12_58 rfl ⟨⟨by decide, by decide⟩, ⟨by decide, by decide⟩⟩ (Nat.le_of_ble_eq_true rfl) (fun r5 s5 p5 => ?_)
    obtain ⟨rfl, rfl⟩ := p5
    refine V_ifeqB (tgt := 20) dX12_head_8 (by decide) (fun br8 => ?_) (fun br8 => ?_)
    · exact absurd hq.1 br8
    · refine V_iload_n dX12_head_11 rfl ?_
      refine V_iconst dX12_head_12 ?_
      refine V_iconst dX12_head_13 ?_
      refine V_callS dX12_head_14 (c_within g _ _ _ _ (by omega) (by omega) (by omega)) ss_RX12_58 rfl ⟨⟨by decide, by decide⟩, ⟨by decide, by decide⟩⟩ (Nat.le_of_ble_eq_true rfl) (fun r14 s14 p14 => ?_)
      obtain ⟨rfl, rfl⟩ := p14
      refine V_ifneB (tgt := 23) dX12_head_17 (by decide) (fun br17 => ?_) (fun br17 => ?_)
      · refine V_aload_n dX12_head_23 rfl ?_
        refine V_iload_n dX12_head_24 rfl ?_
        refine V_callV dX12_head_25 (c_mSaws g _ w hX0 r hq.1) sv_RX12_205 (sh hS rfl) rfl ⟨⟨by decide, by decide⟩, ⟨by decide, by decide⟩⟩ (Nat.le_of_ble_eq_true rfl) (fun r25 s25 p25 => ?_)
        obtain ⟨rfl, hF, hR⟩ := p25
        have hS := hF.std hS
        refine V_aload_n dX12_head_28 rfl ?_
        refine V_getfi dX12_head_29 sf_RX12_185 rfl (sh hS rfl) ?_
        refine V_val (show _ = tvC w r 0 from hR.1) ?_
        refine V_ifne (tgt := 38) dX12_head_32 (by decide) (by exact tvC_r hw r) (fun br32 => ?_) (fun br32 => ?_)
        · have hne : tvM w r 0 ≠ -5 := fun z => br32 (hc2.2.mpr z)
          obtain ⟨q1, q2, q3⟩ := hR.2 hne
          refine V_iload_n dX12_head_38 rfl ?_
          refine V_ifne (tgt := 49) dX12_head_39 (by decide) (by omega) (fun br39 => ?_) (fun br39 => ?_)
          · refine V_iload_n dX12_head_49 rfl ?_
            refine V_iconst dX12_head_50 ?_
            refine V_icmpne (tgt := 61) dX12_head_51 (by decide) (by omega) (by omega) (fun br51 => ?_) (fun br51 => ?_)
            · refine V_aload_n dX12_head_61 rfl ?_
              refine V_getfi dX12_head_62 sf_RX12_194 rfl (sh hS rfl) ?_
              refine V_iret dX12_head_65 rfl (Nat.le_refl _) (Nat.le_refl _) ?_
              refine PMS_i ?_ hF
              first
                | (rw [if_pos (Or.inr (by omega))]; exact q1)
                | (rw [if_neg (fun z => by rcases z with z | z <;> omega), if_pos (by omega)]; exact q2)
                | (rw [if_neg (fun z => by rcases z with z | z <;> omega), if_neg (by omega)]; exact q3)
            · refine V_aload_n dX12_head_54 rfl ?_
              refine V_getfi dX12_head_55 sf_RX12_191 rfl (sh hS rfl) ?_
              refine V_goto (tgt := 65) dX12_head_58 (by decide) ?_
              refine V_iret dX12_head_65 rfl (Nat.le_refl _) (Nat.le_refl _) ?_
              refine PMS_i ?_ hF
              first
                | (rw [if_pos (Or.inr (by omega))]; exact q1)
                | (rw [if_neg (fun z => by rcases z with z | z <;> omega), if_pos (by omega)]; exact q2)
                | (rw [if_neg (fun z => by rcases z with z | z <;> omega), if_neg (by omega)]; exact q3)
          · refine V_aload_n dX12_head_42 rfl ?_
            refine V_getfi dX12_head_43 sf_RX12_188 rfl (sh hS rfl) ?_
            refine V_goto (tgt := 65) dX12_head_46 (by decide) ?_
            refine V_iret dX12_head_65 rfl (Nat.le_refl _) (Nat.le_refl _) ?_
            refine PMS_i ?_ hF
            first
              | (rw [if_pos (Or.inr (by omega))]; exact q1)
              | (rw [if_neg (fun z => by rcases z with z | z <;> omega), if_pos (by omega)]; exact q2)
              | (rw [if_neg (fun z => by rcases z with z | z <;> omega), if_neg (by omega)]; exact q3)
        · refine V_bipush dX12_head_35 (by decide) ?_
          refine V_iret dX12_head_37 rfl (Nat.le_refl _) (Nat.le_refl _) ?_
          exact PMS_i (by rw [if_pos (Or.inl (hc2.2.mp br32))]; exact (hc2.2.mp br32).symm) hF
      · exact absurd hq.2 br17
  · refine V_iload_n dX12_head_0 rfl ?_
    refine V_iconst dX12_head_1 ?_
    refine V_sipush dX12_head_2 (by decide) ?_
    refine V_callS dX12_head_5 (c_within g _ _ _ _ (by omega) (by omega) (by omega)) ss_RX12_58 rfl ⟨⟨by decide, by decide⟩, ⟨by decide, by decide⟩⟩ (Nat.le_of_ble_eq_true rfl) (fun r5 s5 p5 => ?_)
    obtain ⟨rfl, rfl⟩ := p5
    refine V_ifeqB (tgt := 20) dX12_head_8 (by decide) (fun br8 => ?_) (fun br8 => ?_)
    · refine V_bipush dX12_head_20 (by decide) ?_
      refine V_iret dX12_head_22 rfl (Nat.le_refl _) (Nat.le_refl _) ?_
      exact PMS_i (if_neg hq).symm (MS.rf _)
    · refine V_iload_n dX12_head_11 rfl ?_
      refine V_iconst dX12_head_12 ?_
      refine V_iconst dX12_head_13 ?_
      refine V_callS dX12_head_14 (c_within g _ _ _ _ (by omega) (by omega) (by omega)) ss_RX12_58 rfl ⟨⟨by decide, by decide⟩, ⟨by decide, by decide⟩⟩ (Nat.le_of_ble_eq_true rfl) (fun r14 s14 p14 => ?_)
      obtain ⟨rfl, rfl⟩ := p14
      refine V_ifneB (tgt := 23) dX12_head_17 (by decide) (fun br17 => ?_) (fun br17 => ?_)
      · exact absurd ⟨br8, br17⟩ hq
      · refine V_bipush dX12_head_20 (by decide) ?_
        refine V_iret dX12_head_22 rfl (Nat.le_refl _) (Nat.le_refl _) ?_
        exact PMS_i (if_neg hq).symm (MS.rf _)