/-! heads: boards measured, what one costs -/
def nB (w : Nat → Int) : Nat := (w 6).toNat
def wid (w : Nat → Int) (x : Nat) : Int := w (70 + x)
def eW (w : Nat → Int) (L : Nat) : Int := sumB (wid w) L (nB w)
theorem wf_nB {w : Nat → Int} (h : WF w) : (nB w : Int) = w 6 ∧ nB w ≤ 7 := by
  have := h.2.2.2.2.2.2.1
  unfold nB
  omega
theorem wid_b {w : Nat → Int} (h : WF w) {x : Nat} (hx : x < nB w) : 1 ≤ wid w x ∧ wid w x ≤ 99 := h.b (by have := wf_nB h; omega)
theorem eW_b {w : Nat → Int} (h : WF w) (L : Nat) : 0 ≤ eW w L ∧ eW w L ≤ 693 := by
  have := sumB_bd (f := wid w) (s := L) (B := 99) (by decide) (nB w) (fun j hj => by have := wid_b h hj; omega)
  have := wf_nB h
  unfold eW
  omega
/-- what the saw's rows tell -/
def HB (τ : St) (w : Nat → Int) (r : Int) : Prop := gG τ 72 5 = r ∧ gG τ 72 4 = (nB w : Int) ∧ (∀ x, x < nB w → gG τ 73 x = wid w x) ∧ ∀ L, L < 2 ^ nB w → gG τ 75 L = eW w L
theorem c_measure (g : Gl) (σ : St) (w : Nat → Int) (hX : XS σ w) (hz : Z0 σ) (r : Int) : Ct g mX2_measure 1 0 0 [vq (some 72), vq (some 9), vi r] σ (fun q τ => q = none ∧ XW σ τ ∧ HB τ w r) := by
  refine Ct.of (by decide +kernel) (Nat.le_of_ble_eq_true rfl) ?_
  have hS := hX.1
  have hN := wf_nB hX.2.2
  have n6 := hX.n6
  have outer : ∀ (m i : Nat) (τ : St), nB w - i < m → i ≤ nB w → XW σ τ → gG τ 72 5 = r → gG τ 72 4 = (nB w : Int) → (∀ x, x < i → gG τ 73 x = wid w x) → (∀ L, L < 2 ^ i → gG τ 75 L = sumB (wid w) L i) →
      V g mX2_measure (rmD 1 0 0) (QM g 0 0 (fun q τ => q = none ∧ XW σ τ ∧ HB τ w r)) 22 [some (vq (some 72)), some (vq (some 9)), none, some (vi (i : Int)), none, none, none] [] 0 0 τ := by
    intro m
    induction m with
    | zero => intro i τ hm; omega
    | succ m ih =>
      intro i τ hm hi hK h5 h4 h73 h75
      have hX1 := hK.xs hX
      have hS := hX1.1
      refine V_iload_n dX2_measure_22 rfl ?_
      refine V_aload_n dX2_measure_23 rfl ?_
      refine V_getfi dX2_measure_24 sf_RX2_33 rfl (sh hS rfl) ?_
      refine V_icmpge (tgt := 108) dX2_measure_27 (by decide) (by omega) (by omega) (fun br27 => ?_) (fun br27 => ?_)
      · have e : i = nB w := by omega
        subst e
        refine V_vret dX2_measure_108 rfl (Nat.le_refl _) (Nat.le_refl _) ?_
        exact ⟨rfl, hK, h5, h4, h73, h75⟩
      · obtain ⟨b, hb, hb93, hbl, hbg, hbk⟩ := hX1.b (i := (i : Int)) (by omega) (by omega)
        rw [Int.toNat_natCast] at hbg hbk
        refine V_aload_n dX2_measure_30 rfl ?_
        refine V_iload_n dX2_measure_31 rfl ?_
        refine V_callV dX2_measure_32 (c_bAt hX1 (by omega) (by omega) hb) sv_RX2_36 (sh hS rfl) rfl ⟨⟨by decide, by decide⟩, ⟨by decide, by decide⟩⟩ (Nat.le_of_ble_eq_true rfl) (fun r32 s32 p32 => ?_)
        obtain ⟨rfl, rfl⟩ := p32
        refine V_astore dX2_measure_35 (by decide) rfl ?_
        refine V_aload_n dX2_measure_37 rfl ?_
        refine V_getfr dX2_measure_38 sf_RX2_9 (by decide) (sh hS rfl) (rf hS rfl) ?_
        refine V_iload_n dX2_measure_41 rfl ?_
        refine V_aload dX2_measure_42 rfl ?_
        refine V_ifnonnull (tgt := 51) dX2_measure_44 (by decide) (fun a44 br44 => ?_) (fun br44 => ?_)
        · cases br44
          refine V_aload dX2_measure_51 rfl ?_
          refine V_getfi dX2_measure_53 sf_RX2_40 rfl hbl ?_
          refine V_val (show _ = wid w i from hbg) ?_
          refine V_iast dX2_measure_56 (sh hS rfl) (by omega) ?_
          rw [Int.toNat_natCast]
          have hK2 : XW σ (setG τ 73 i (wid w i)) := hK.onG (by decide)
          have k73 : ∀ x, x < i + 1 → gG (setG τ 73 i (wid w i)) 73 x = wid w x := fun x hx => by
            by_cases e : x = i
            · subst e; exact gG_is _ _ _ _
            · rw [gG_ne _ _ (Or.inr e)]; exact h73 x (by omega)
          have k5 : gG (setG τ 73 i (wid w i)) 72 5 = r := (gG_ne _ _ (Or.inl (by decide))).trans h5
          have k4 : gG (setG τ 73 i (wid w i)) 72 4 = (nB w : Int) := (gG_ne _ _ (Or.inl (by decide))).trans h4
          have k75 : ∀ L, L < 2 ^ i → gG (setG τ 73 i (wid w i)) 75 L = sumB (wid w) L i := fun L hL => (gG_ne _ _ (Or.inl (by decide))).trans (h75 L hL)
          generalize setG τ 73 i (wid w i) = υ at hK2 k73 k5 k4 k75 ⊢
          refine V_iconst dX2_measure_57 ?_
          refine V_iload_n dX2_measure_58 rfl ?_
          refine V_ishl dX2_measure_59 (by omega) ?_
          refine V_val (show _ = ((2 ^ i : Nat) : Int) by rw [Int.toNat_natCast, Int.one_mul, Int.natCast_pow]; rfl) ?_
          refine V_istore dX2_measure_60 (by decide) rfl ?_
          refine V_iconst dX2_measure_62 ?_
          refine V_istore dX2_measure_63 (by decide) rfl ?_
          refine V_mask [true, true, false, true, false, true, true] ?_
          have hp1 : 2 ^ (i + 1) ≤ 2 ^ 7 := pw_le (by omega)
          have hp2 : 2 ^ (i + 1) = 2 * 2 ^ i := by rw [Nat.pow_succ]; omega
          obtain ⟨B, hB⟩ : ∃ B, B = 2 ^ i := ⟨_, rfl⟩
          rw [← hB] at hp2 k75 ⊢
          have inner : ∀ (m2 s : Nat) (τ2 : St), B - s < m2 → s ≤ B → XW σ τ2 → gG τ2 72 5 = r → gG τ2 72 4 = (nB w : Int) → (∀ x, x < i + 1 → gG τ2 73 x = wid w x) → (∀ t, t < B + s → gG τ2 75 t = sumB (wid w) t (i + 1)) →
              V g mX2_measure (rmD 1 0 0) (QM g 0 0 (fun q τ => q = none ∧ XW σ τ ∧ HB τ w r)) 65 [some (vq (some 72)), some (vq (some 9)), none, some (vi (i : Int)), none, some (vi (B : Int)), some (vi (s : Int))] [] 0 0 τ2 := by
            intro m2
            induction m2 with
            | zero => intro s τ2 hm2; omega
            | succ m2 ih2 =>
              intro s τ2 hm2 hs hK2 k5 k4 k73 k75
              have hS := (hK2.xs hX).1
              refine V_iload dX2_measure_65 rfl ?_
              refine V_iload dX2_measure_67 rfl ?_
              refine V_icmpge (tgt := 102) dX2_measure_69 (by decide) (by omega) (by omega) (fun br69 => ?_) (fun br69 => ?_)
              · have hs2 : s = B := by omega
                subst hs2
                refine V_iinc dX2_measure_102 rfl (by decide) rfl ?_
                refine V_goto (tgt := 22) dX2_measure_105 (by decide) ?_
                refine V_mask [true, true, false, true, false, false, false] ?_
                exact ih (i + 1) τ2 (by omega) (by omega) hK2 k5 k4 k73 (fun t ht => k75 t (by omega))
              · have e0 := k75 s (by omega)
                have e1 := k73 i (by omega)
                refine V_aload_n dX2_measure_72 rfl ?_
                refine V_getfr dX2_measure_73 sf_RX2_18 (by decide) (sh hS rfl) (rf hS rfl) ?_
                refine V_iload dX2_measure_76 rfl ?_
                refine V_iload dX2_measure_78 rfl ?_
                refine V_iadd dX2_measure_80 ?_
                refine V_aload_n dX2_measure_81 rfl ?_
                refine V_getfr dX2_measure_82 sf_RX2_18 (by decide) (sh hS rfl) (rf hS rfl) ?_
                refine V_iload dX2_measure_85 rfl ?_
                refine V_iald dX2_measure_87 (sh hS rfl) (by omega) ?_
                refine V_aload_n dX2_measure_88 rfl ?_
                refine V_getfr dX2_measure_89 sf_RX2_9 (by decide) (sh hS rfl) (rf hS rfl) ?_
                refine V_iload_n dX2_measure_92 rfl ?_
                refine V_iald dX2_measure_93 (sh hS rfl) (by omega) ?_
                refine V_iadd dX2_measure_94 ?_
                refine V_val (show _ = sumB (wid w) s (i + 1) + wid w i by rw [Int.toNat_natCast, Int.toNat_natCast, e0, e1]) ?_
                refine V_iast dX2_measure_95 (sh hS rfl) (by omega) ?_
                refine V_iinc dX2_measure_96 rfl (by decide) rfl ?_
                refine V_goto (tgt := 65) dX2_measure_99 (by decide) ?_
                refine V_mask [true, true, false, true, false, true, true] ?_
                rw [show ((B : Int) + (s : Int)).toNat = B + s by omega]
                refine ih2 (s + 1) _ (by omega) (by omega) (hK2.onG (by decide)) ((gG_ne _ _ (Or.inl (by decide))).trans k5) ((gG_ne _ _ (Or.inl (by decide))).trans k4) (fun x hx => (gG_ne _ _ (Or.inl (by decide))).trans (k73 x hx)) (fun t ht => ?_)
                have hb : s < 2 ^ i := by omega
                by_cases ht2 : t = B + s
                · subst ht2
                  rw [gG_is, hB, sumB_add hb, sumB_lt hb]
                · rw [gG_ne _ _ (Or.inr ht2)]
                  exact k75 t (by omega)
          exact inner (B + 1) 0 υ (by omega) (by omega) hK2 k5 k4 k73 (fun t ht => by
            rw [sumB_lt (by omega)]
            exact k75 t (by omega))
        · cases br44
  refine V_aload_n dX2_measure_0 rfl ?_
  refine V_iload_n dX2_measure_1 rfl ?_
  refine V_puti dX2_measure_2 (sp_RX2_24 _) rfl (sh hS rfl) ?_
  refine V_aload_n dX2_measure_5 rfl ?_
  refine V_aload_n dX2_measure_6 rfl ?_
  refine V_getfi dX2_measure_7 sf_RX2_28 rfl (sh hS rfl) ?_
  refine V_val (show gG σ 9 6 = (nB w : Int) by omega) ?_
  refine V_puti dX2_measure_10 (sp_RX2_33 _) rfl (sh hS rfl) ?_
  refine V_aload_n dX2_measure_13 rfl ?_
  refine V_getfr dX2_measure_14 sf_RX2_18 (by decide) (sh hS rfl) (rf hS rfl) ?_
  refine V_iconst dX2_measure_17 ?_
  refine V_iconst dX2_measure_18 ?_
  refine V_iast dX2_measure_19 (sh hS rfl) (by omega) ?_
  refine V_iconst dX2_measure_20 ?_
  refine V_istore_n dX2_measure_21 (by decide) rfl ?_
  refine V_mask [true, true, false, true, false, false, false] ?_
  exact outer _ 0 _ (Nat.lt_succ_self _) (Nat.zero_le _) ((((XW.rf hz).onG (by decide)).onG (by decide)).onG (by decide)) rfl rfl (fun x hx => absurd hx (Nat.not_lt_zero x)) (fun L hL => by
      rw [show L = 0 from Nat.lt_one_iff.mp hL]; rfl)
theorem c_isDone (g : Gl) (σ : St) (hS : Std σ) (r e : Int) (h5 : gG σ 72 5 = r) (hr : 1 ≤ r ∧ r ≤ 200) (he : inR e) : Ct g mX2_isDone 0 0 0 [vq (some 72), vi e] σ (rP (vi (bI (2 * r ≤ e))) σ) := by
  refine Ct.of (by decide +kernel) (Nat.le_of_ble_eq_true rfl) ?_
  refine V_iload_n dX2_isDone_0 rfl ?_
  refine V_iconst dX2_isDone_1 ?_
  refine V_aload_n dX2_isDone_2 rfl ?_
  refine V_getfi dX2_isDone_3 sf_RX2_24 rfl (sh hS rfl) ?_
  refine V_imul dX2_isDone_6 ?_
  refine V_icmplt (tgt := 14) dX2_isDone_7 (by decide) (by omega) (by omega) (fun br7 => ?_) (fun br7 => ?_)
  · refine V_iconst dX2_isDone_14 ?_
    refine V_zret dX2_isDone_15 rfl (Nat.le_refl _) (Nat.le_refl _) (by first | omega | exact bI_01 _) ?_
    first | exact rP_t (by omega) | exact rP_f (by omega)
  · refine V_iconst dX2_isDone_10 ?_
    refine V_goto (tgt := 15) dX2_isDone_11 (by decide) ?_
    refine V_zret dX2_isDone_15 rfl (Nat.le_refl _) (Nat.le_refl _) (by first | omega | exact bI_01 _) ?_
    first | exact rP_t (by omega) | exact rP_f (by omega)
/-- what a board costs that lies from s on -/
def offF (r wd s : Int) : Int := max 0 (max (s - r) (r - (s + wd)))
def sqF (r wd s : Int) : Int := r * r - offF r wd s * offF r wd s
def spt (r wd s : Int) : Int := wd * 2 * (if rt (sqF r wd s) * rt (sqF r wd s) < sqF r wd s then rt (sqF r wd s) + 1 else rt (sqF r wd s))
theorem sqF_b {r wd s : Int} (hr : 1 ≤ r ∧ r ≤ 200) (hs : 0 ≤ s ∧ s < 2 * r) (hw : 0 ≤ wd) : (0 ≤ offF r wd s ∧ offF r wd s ≤ r) ∧ (0 ≤ sqF r wd s ∧ sqF r wd s ≤ 40000) ∧ (0 ≤ rt (sqF r wd s) ∧ rt (sqF r wd s) ≤ 200) := by
  have a : 0 ≤ offF r wd s ∧ offF r wd s ≤ r := by unfold offF; omega
  have b := mul_bd a a
  have c := mul_bd (a := r) (b := r) (A := 200) (B := 200) (by omega) (by omega)
  have d : 0 ≤ sqF r wd s ∧ sqF r wd s ≤ 40000 := by unfold sqF; omega
  have e := rt_0 (sqF r wd s)
  have f : rt (sqF r wd s) < 201 := by
    have k1 := rt_le d.1
    exact sq_lt e (by decide) (by omega)
  exact ⟨a, d, e, by omega⟩
theorem spt_b {r wd s : Int} (hr : 1 ≤ r ∧ r ≤ 200) (hs : 0 ≤ s ∧ s < 2 * r) (hw : 0 ≤ wd ∧ wd ≤ 99) : 0 ≤ spt r wd s ∧ spt r wd s ≤ 40000 := by
  have a := (sqF_b (wd := wd) hr hs hw.1).2.2
  unfold spt
  split
  · have := mul_bd (a := wd * 2) (b := rt (sqF r wd s) + 1) (A := 198) (B := 201) (by omega) (by omega)
    omega
  · have := mul_bd (a := wd * 2) (b := rt (sqF r wd s)) (A := 198) (B := 201) (by omega) (by omega)
    omega
theorem c_spentOn (g : Gl) (σ : St) (hS : Std σ) (r wd s : Int) (x : Nat) (hx : x < 7) (h5 : gG σ 72 5 = r) (h73 : gG σ 73 x = wd) (hr : 1 ≤ r ∧ r ≤ 200) (hs : 0 ≤ s ∧ s < 2 * r) (hw : 0 ≤ wd ∧ wd ≤ 99) : Ct g mX2_spentOn 1 0 0 [vq (some 72), vi (x : Int), vi s] σ (rP (vi (spt r wd s)) σ) := by
  refine Ct.of (by decide +kernel) (Nat.le_of_ble_eq_true rfl) ?_
  have hb := sqF_b (wd := wd) hr hs hw.1
  have m1 := mul_bd (a := rt (sqF r wd s)) (b := rt (sqF r wd s)) (A := 200) (B := 200) hb.2.2 hb.2.2
  refine V_aload_n dX2_spentOn_0 rfl ?_
  refine V_getfr dX2_spentOn_1 sf_RX2_9 (by decide) (sh hS rfl) (rf hS rfl) ?_
  refine V_iload_n dX2_spentOn_4 rfl ?_
  refine V_iald dX2_spentOn_5 (sh hS rfl) (by omega) ?_
  refine V_val (show _ = wd by rw [Int.toNat_natCast]; exact h73) ?_
  refine V_istore_n dX2_spentOn_6 (by decide) rfl ?_
  refine V_iconst dX2_spentOn_7 ?_
  refine V_iload_n dX2_spentOn_8 rfl ?_
  refine V_aload_n dX2_spentOn_9 rfl ?_
  refine V_getfi dX2_spentOn_10 sf_RX2_24 rfl (sh hS rfl) ?_
  refine V_isub dX2_spentOn_13 ?_
  refine V_aload_n dX2_spentOn_14 rfl ?_
  refine V_getfi dX2_spentOn_15 sf_RX2_24 rfl (sh hS rfl) ?_
  refine V_iload_n dX2_spentOn_18 rfl ?_
  refine V_iload_n dX2_spentOn_19 rfl ?_
  refine V_iadd dX2_spentOn_20 ?_
  refine V_isub dX2_spentOn_21 ?_
  refine V_max dX2_spentOn_22 sm_RX2_45 (by decide) (by decide) (Nat.le_of_ble_eq_true rfl) (by omega) (by omega) ?_
  refine V_max dX2_spentOn_25 sm_RX2_45 (by decide) (by decide) (Nat.le_of_ble_eq_true rfl) (by omega) (by omega) ?_
  refine V_val (show _ = offF r wd s by rw [h5]; rfl) ?_
  refine V_istore dX2_spentOn_28 (by decide) rfl ?_
  refine V_aload_n dX2_spentOn_30 rfl ?_
  refine V_getfi dX2_spentOn_31 sf_RX2_24 rfl (sh hS rfl) ?_
  refine V_aload_n dX2_spentOn_34 rfl ?_
  refine V_getfi dX2_spentOn_35 sf_RX2_24 rfl (sh hS rfl) ?_
  refine V_imul dX2_spentOn_38 ?_
  refine V_iload dX2_spentOn_39 rfl ?_
  refine V_iload dX2_spentOn_41 rfl ?_
  refine V_imul dX2_spentOn_43 ?_
  refine V_isub dX2_spentOn_44 ?_
  refine V_val (show _ = sqF r wd s by rw [h5]; rfl) ?_
  refine V_istore dX2_spentOn_45 (by decide) rfl ?_
  refine V_iload dX2_spentOn_47 rfl ?_
  refine V_callS dX2_spentOn_49 (c_rootOf g _ _ hb.2.1.1 (by omega)) ss_RX2_51 rfl ⟨⟨by decide, by decide⟩, ⟨by decide, by decide⟩⟩ (Nat.le_of_ble_eq_true rfl) (fun r49 s49 p49 => ?_)
  obtain ⟨rfl, rfl⟩ := p49
  refine V_istore dX2_spentOn_52 (by decide) rfl ?_
  refine V_iload_n dX2_spentOn_54 rfl ?_
  refine V_iconst dX2_spentOn_55 ?_
  refine V_imul dX2_spentOn_56 ?_
  refine V_iload dX2_spentOn_57 rfl ?_
  refine V_iload dX2_spentOn_59 rfl ?_
  refine V_imul dX2_spentOn_61 ?_
  refine V_iload dX2_spentOn_62 rfl ?_
  refine V_icmpge (tgt := 74) dX2_spentOn_64 (by decide) (by omega) (by omega) (fun br64 => ?_) (fun br64 => ?_)
  · refine V_iload dX2_spentOn_74 rfl ?_
    refine V_imul dX2_spentOn_76 ?_
    refine V_iret dX2_spentOn_77 rfl (Nat.le_refl _) (Nat.le_refl _) ?_
    first
      | exact rP_i (show wd * 2 * (rt (sqF r wd s) + 1) = _ by unfold spt; rw [if_pos (by omega)]) rfl
      | exact rP_i (show wd * 2 * rt (sqF r wd s) = _ by unfold spt; rw [if_neg (by omega)]) rfl
  · refine V_iload dX2_spentOn_67 rfl ?_
    refine V_iconst dX2_spentOn_69 ?_
    refine V_iadd dX2_spentOn_70 ?_
    refine V_goto (tgt := 76) dX2_spentOn_71 (by decide) ?_
    refine V_imul dX2_spentOn_76 ?_
    refine V_iret dX2_spentOn_77 rfl (Nat.le_refl _) (Nat.le_refl _) ?_
    first
      | exact rP_i (show wd * 2 * (rt (sqF r wd s) + 1) = _ by unfold spt; rw [if_pos (by omega)]) rfl
      | exact rP_i (show wd * 2 * rt (sqF r wd s) = _ by unfold spt; rw [if_neg (by omega)]) rfl