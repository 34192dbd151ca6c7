/-! the model's rings: a gap, a leak -/
theorem c_mIsSet (g : Gl) (σ : St) (w : Nat → Int) (hX : MX σ w) (s : Int) (hi : inR s) : Ct g mX12_isSet 1 0 0 [vq (some 77), vi s] σ (rP (vi (bI (okSet w s))) σ) := by
  refine Ct.of (by decide +kernel) (Nat.le_of_ble_eq_true rfl) ?_
  obtain ⟨hS, h78, hw⟩ := hX
  have hN := wf_n hw
  have hP := two_nS hw
  refine V_iload_n dX12_isSet_0 rfl ?_
  refine V_ifle (tgt := 29) dX12_isSet_1 (by decide) (by omega) (fun br1 => ?_) (fun br1 => ?_)
  · refine V_iconst dX12_isSet_29 ?_
    refine V_zret dX12_isSet_30 rfl (Nat.le_refl _) (Nat.le_refl _) (by first | omega | exact bI_01 _) ?_
    first | exact rP_t (by unfold okSet; omega) | exact rP_f (by unfold okSet; omega)
  · refine V_iload_n dX12_isSet_4 rfl ?_
    refine V_iconst dX12_isSet_5 ?_
    refine V_aload_n dX12_isSet_6 rfl ?_
    refine V_getfr dX12_isSet_7 sf_RX12_9 (by decide) (sh hS rfl) (rf hS rfl) ?_
    refine V_iconst dX12_isSet_10 ?_
    refine V_iald dX12_isSet_11 (sh hS rfl) (by omega) ?_
    refine V_val (mw h78 (k := 4) rfl) ?_
    refine V_ishl dX12_isSet_12 (by omega) ?_
    refine V_val pw_sh ?_
    refine V_icmpge (tgt := 29) dX12_isSet_13 (by decide) (by omega) (by omega) (fun br13 => ?_) (fun br13 => ?_)
    · refine V_iconst dX12_isSet_29 ?_
      refine V_zret dX12_isSet_30 rfl (Nat.le_refl _) (Nat.le_refl _) (by first | omega | exact bI_01 _) ?_
      first | exact rP_t (by unfold okSet; omega) | exact rP_f (by unfold okSet; omega)
    · obtain ⟨m, rfl⟩ : ∃ m : Nat, s = (m : Int) := ⟨s.toNat, by omega⟩
      have hpb := pc10_b m
      refine V_iload_n dX12_isSet_16 rfl ?_
      refine V_callS dX12_isSet_17 (c_bitCount g _ _ (by omega) (by omega)) ss_RX12_115 rfl ⟨⟨by decide, by decide⟩, ⟨by decide, by decide⟩⟩ (Nat.le_of_ble_eq_true rfl) (fun r17 s17 p17 => ?_)
      obtain ⟨rfl, rfl⟩ := p17
      refine V_bipush dX12_isSet_20 (by decide) ?_
      refine V_icmpge (tgt := 29) dX12_isSet_22 (by decide) (by omega) (by omega) (fun br22 => ?_) (fun br22 => ?_)
      · refine V_iconst dX12_isSet_29 ?_
        refine V_zret dX12_isSet_30 rfl (Nat.le_refl _) (Nat.le_refl _) (by first | omega | exact bI_01 _) ?_
        first | exact rP_t (by unfold okSet; omega) | exact rP_f (by unfold okSet; omega)
      · refine V_iconst dX12_isSet_25 ?_
        refine V_goto (tgt := 30) dX12_isSet_26 (by decide) ?_
        refine V_zret dX12_isSet_30 rfl (Nat.le_refl _) (Nat.le_refl _) (by first | omega | exact bI_01 _) ?_
        first | exact rP_t (by unfold okSet; omega) | exact rP_f (by unfold okSet; omega)
/-- row a of the model holds the ring l, whose staves there are -/
def RGr (σ : St) (w : Nat → Int) (a : Nat) (l : List Nat) (m : Nat) : Prop := ∀ j, j < m → gG σ a j = ((l.getD j 0 : Nat) : Int) ∧ l.getD j 0 < nS w
theorem gapL_e {w : Nat → Int} {l : List Nat} {i : Nat} (h1 : l.getD i 0 < nS w) (h2 : l.getD (nxtI l.length i) 0 < nS w) : gapL w l i = iAbs (edg w (l.getD i 0) + edg w (l.getD (nxtI l.length i) 0) - w 3) := if_pos ⟨h1, h2⟩
theorem c_mGap (g : Gl) (σ : St) (w : Nat → Int) (hX : MX σ w) (a : Nat) (ha : a = 83 ∨ a = 84) (l : List Nat) (hl : l.length ≤ 8) (hJ : gG σ 77 12 = (l.length : Int)) (hr : RGr σ w a l l.length) (i : Nat) (hi : i < l.length) : Ct g mX12_gap 1 0 0 [vq (some 77), vq (some a), vi (i : Int)] σ (rP (vi (gapL w l i)) σ) := by
  refine Ct.of (by decide +kernel) (Nat.le_of_ble_eq_true rfl) ?_
  have hX0 := hX
  obtain ⟨hS, h78, hw⟩ := hX
  have hN := wf_n hw
  have hla : gl σ a = some (.inr (0, 9)) := by
    rcases ha with rfl | rfl
    · exact sh hS rfl
    · exact sh hS rfl
  have r1 := hr i hi
  have hnx : nxtI l.length i < l.length := by
    unfold nxtI
    split <;> omega
  have r2 := hr _ hnx
  have en : ((i : Int) + 1) % (l.length : Int) = ((nxtI l.length i : Nat) : Int) := by
    unfold nxtI
    split
    · rw [Int.emod_eq_of_lt (by omega) (by omega)]; omega
    · have : (i : Int) + 1 = (l.length : Int) := by omega
      rw [this, Int.emod_self]; rfl
  have e1 := wf_edg hw r1.2
  have e2 := wf_edg hw r2.2
  have w3 := hw.2.2.2.1
  refine V_aload_n dX12_gap_0 rfl ?_
  refine V_aload_n dX12_gap_1 rfl ?_
  refine V_iload_n dX12_gap_2 rfl ?_
  refine V_iald dX12_gap_3 hla (by omega) ?_
  refine V_val (show _ = ((l.getD i 0 : Nat) : Int) from r1.1) ?_
  refine V_callV dX12_gap_4 (c_mEdge g _ w hX0 (l.getD i 0) (by omega)) sv_RX12_100 (sh hS rfl) rfl ⟨⟨by decide, by decide⟩, ⟨by decide, by decide⟩⟩ (Nat.le_of_ble_eq_true rfl) (fun r4 s4 p4 => ?_)
  obtain ⟨rfl, rfl⟩ := p4
  refine V_aload_n dX12_gap_7 rfl ?_
  refine V_aload_n dX12_gap_8 rfl ?_
  refine V_iload_n dX12_gap_9 rfl ?_
  refine V_iconst dX12_gap_10 ?_
  refine V_iadd dX12_gap_11 ?_
  refine V_aload_n dX12_gap_12 rfl ?_
  refine V_getfi dX12_gap_13 sf_RX12_124 rfl (sh hS rfl) ?_
  refine V_val (show _ = (l.length : Int) from hJ) ?_
  refine V_irem dX12_gap_16 (by omega) ?_
  refine V_val en ?_
  refine V_iald dX12_gap_17 hla (by omega) ?_
  refine V_val (show _ = ((l.getD (nxtI l.length i) 0 : Nat) : Int) by rw [Int.toNat_natCast]; exact r2.1) ?_
  refine V_callV dX12_gap_18 (c_mEdge g _ w hX0 (l.getD (nxtI l.length i) 0) (by omega)) sv_RX12_100 (sh hS rfl) rfl ⟨⟨by decide, by decide⟩, ⟨by decide, by decide⟩⟩ (Nat.le_of_ble_eq_true rfl) (fun r18 s18 p18 => ?_)
  obtain ⟨rfl, rfl⟩ := p18
  refine V_iadd dX12_gap_21 ?_
  refine V_aload_n dX12_gap_22 rfl ?_
  refine V_getfr dX12_gap_23 sf_RX12_9 (by decide) (sh hS rfl) (rf hS rfl) ?_
  refine V_iconst dX12_gap_26 ?_
  refine V_iald dX12_gap_27 (sh hS rfl) (by omega) ?_
  refine V_val (mw h78 (k := 3) rfl) ?_
  refine V_isub dX12_gap_28 ?_
  refine V_abs dX12_gap_29 sm_RX12_121 (by decide) (by decide) (Nat.le_of_ble_eq_true rfl) (by omega) ?_
  refine V_iret dX12_gap_32 rfl (Nat.le_refl _) (Nat.le_refl _) ?_
  exact rP_i (gapL_e r1.2 r2.2).symm rfl
theorem c_mLeakOf (g : Gl) (σ : St) (w : Nat → Int) (hX : MX σ w) (a : Nat) (ha : a = 83 ∨ a = 84) (l : List Nat) (hl : l.length ≤ 8) (hJ : gG σ 77 12 = (l.length : Int)) (hr : RGr σ w a l l.length) (p : Int) (hp : 0 ≤ p ∧ p ≤ 99) : Ct g mX12_leakOf 2 0 0 [vq (some 77), vq (some a), vi p] σ (rP (vi (leakL w l p)) σ) := by
  refine Ct.of (by decide +kernel) (Nat.le_of_ble_eq_true rfl) ?_
  have hX0 := hX
  obtain ⟨hS, h78, hw⟩ := hX
  have loop : ∀ (m i : Nat), i + m = l.length → V g mX12_leakOf (rmD 2 0 0) (QM g 0 0 (rP (vi (leakL w l p)) σ)) 5 [some (vq (some 77)), some (vq (some a)), some (vi p), some (vi (sumN (fun j => max 0 (gapL w l j - p)) i)), some (vi (i : Int))] [] 0 0 σ := by
    intro m
    induction m with
    | zero =>
      intro i hi
      have e : i = l.length := by omega
      subst e
      refine V_iload dX12_leakOf_5 rfl ?_
      refine V_aload_n dX12_leakOf_7 rfl ?_
      refine V_getfi dX12_leakOf_8 sf_RX12_124 rfl (sh hS rfl) ?_
      refine V_val (show _ = (l.length : Int) from hJ) ?_
      refine V_icmpge (tgt := 36) dX12_leakOf_11 (by decide) (by omega) (by omega) (fun br11 => ?_) (fun br11 => ?_)
      · refine V_iload_n dX12_leakOf_36 rfl ?_
        refine V_iret dX12_leakOf_37 rfl (Nat.le_refl _) (Nat.le_refl _) ?_
        exact rP_i rfl rfl
      · omega
    | succ m ih =>
      intro i hi
      have gb := gapW_b hw (l.getD i 0) (l.getD (nxtI l.length i) 0)
      have gb2 : 0 ≤ gapL w l i ∧ gapL w l i ≤ 42 := gb
      refine V_iload dX12_leakOf_5 rfl ?_
      refine V_aload_n dX12_leakOf_7 rfl ?_
      refine V_getfi dX12_leakOf_8 sf_RX12_124 rfl (sh hS rfl) ?_
      refine V_val (show _ = (l.length : Int) from hJ) ?_
      refine V_icmpge (tgt := 36) dX12_leakOf_11 (by decide) (by omega) (by omega) (fun br11 => ?_) (fun br11 => ?_)
      · omega
      · refine V_iload_n dX12_leakOf_14 rfl ?_
        refine V_iconst dX12_leakOf_15 ?_
        refine V_aload_n dX12_leakOf_16 rfl ?_
        refine V_aload_n dX12_leakOf_17 rfl ?_
        refine V_iload dX12_leakOf_18 rfl ?_
        refine V_callV dX12_leakOf_20 (c_mGap g _ w hX0 a ha l hl hJ hr i (by omega)) sv_RX12_127 (sh hS rfl) rfl ⟨⟨by decide, by decide⟩, ⟨by decide, by decide⟩⟩ (Nat.le_of_ble_eq_true rfl) (fun r20 s20 p20 => ?_)
        obtain ⟨rfl, rfl⟩ := p20
        refine V_iload_n dX12_leakOf_23 rfl ?_
        refine V_isub dX12_leakOf_24 ?_
        refine V_max dX12_leakOf_25 sm_RX12_83 (by decide) (by decide) (Nat.le_of_ble_eq_true rfl) (by omega) (by omega) ?_
        refine V_iadd dX12_leakOf_28 ?_
        refine V_istore_n dX12_leakOf_29 (by decide) rfl ?_
        refine V_iinc dX12_leakOf_30 rfl (by decide) rfl ?_
        refine V_goto (tgt := 5) dX12_leakOf_33 (by decide) ?_
        refine V_mask [true, true, true, true, true] ?_
        exact ih (i + 1) (by omega)
  refine V_iconst dX12_leakOf_0 ?_
  refine V_istore_n dX12_leakOf_1 (by decide) rfl ?_
  refine V_iconst dX12_leakOf_2 ?_
  refine V_istore dX12_leakOf_3 (by decide) rfl ?_
  refine V_mask [true, true, true, true, true] ?_
  exact loop l.length 0 (Nat.zero_add _)
/-- the greatest of the first n, and 0 -/
def mxN (h : Nat → Int) : Nat → Int
  | 0 => 0
  | n + 1 => max (mxN h n) (h n)
theorem mxN_cong {h e : Nat → Int} : ∀ n : Nat, (∀ j, j < n → h j = e j) → mxN h n = mxN e n
  | 0, _ => rfl
  | n + 1, q => by
    show max (mxN h n) (h n) = max (mxN e n) (e n)
    rw [mxN_cong n (fun j hj => q j (by omega)), q n (by omega)]
theorem mxN_b {h : Nat → Int} {B : Int} (hB : 0 ≤ B) : ∀ n : Nat, (∀ j, j < n → h j ≤ B) → 0 ≤ mxN h n ∧ mxN h n ≤ B
  | 0, _ => ⟨Int.le_refl _, hB⟩
  | n + 1, q => by
    have a := mxN_b hB n (fun j hj => q j (by omega))
    have b := q n (by omega)
    show 0 ≤ max (mxN h n) (h n) ∧ max (mxN h n) (h n) ≤ B
    omega
/-- what the joints of a ring begun cost, its first m; the widest of them -/
def preS (w : Nat → Int) (p : Int) (l : List Nat) (m : Nat) : Int := sumN (fun j => cst w p (l.getD j 0) (l.getD (j + 1) 0)) m
def preM (w : Nat → Int) (l : List Nat) (m : Nat) : Int := mxN (fun j => cst w 0 (l.getD j 0) (l.getD (j + 1) 0)) m
theorem gapL_in {w : Nat → Int} {l : List Nat} {j : Nat} (h : j + 1 < l.length) : gapL w l j = gapW w (l.getD j 0) (l.getD (j + 1) 0) := by
  unfold gapL nxtI
  rw [if_pos h]
theorem gapL_last {w : Nat → Int} {l : List Nat} {n : Nat} (h : l.length = n + 1) : gapL w l n = gapW w (l.getD n 0) (l.getD 0 0) := by
  unfold gapL nxtI
  rw [if_neg (by omega)]
theorem leafS {w : Nat → Int} {p : Int} {l : List Nat} {n : Nat} (h : l.length = n + 1) : leakL w l p = preS w p l n + cst w p (l.getD n 0) (l.getD 0 0) := by
  unfold leakL preS
  rw [h]
  show sumN _ n + max 0 (gapL w l n - p) = _
  rw [gapL_last h, sumN_cong n (fun j hj => (show max 0 (gapL w l j - p) = cst w p (l.getD j 0) (l.getD (j + 1) 0) by rw [gapL_in (by omega)]; rfl))]
  rfl
theorem cst0 {w : Nat → Int} (hw : WF w) (a b : Nat) : cst w 0 a b = gapW w a b := by
  have := gapW_b hw a b
  unfold cst
  omega
theorem leafM {w : Nat → Int} (hw : WF w) {l : List Nat} {n : Nat} (h : l.length = n + 1) : mxN (gapL w l) (n + 1) = max (preM w l n) (cst w 0 (l.getD n 0) (l.getD 0 0)) := by
  show max (mxN (gapL w l) n) (gapL w l n) = _
  rw [gapL_last h, cst0 hw]
  unfold preM
  rw [mxN_cong n (fun j hj => (show gapL w l j = cst w 0 (l.getD j 0) (l.getD (j + 1) 0) by rw [gapL_in (by omega), cst0 hw]))]
theorem getD_ap1 {l r : List Nat} {i : Nat} (h : i < l.length) : (l ++ r).getD i 0 = l.getD i 0 := by
  rw [List.getD_eq_getElem?_getD, List.getD_eq_getElem?_getD, List.getElem?_append_left h]
theorem getD_ap2 {l : List Nat} {x n : Nat} (h : l.length = n) : (l ++ [x]).getD n 0 = x := by
  rw [List.getD_eq_getElem?_getD, ← h, List.getElem?_append_right (Nat.le_refl _), Nat.sub_self]; rfl
theorem preS_ap {w : Nat → Int} {p : Int} {l : List Nat} {n s : Nat} (h : l.length = n + 1) : preS w p (l ++ [s]) (n + 1) = preS w p l n + cst w p (l.getD n 0) s := by
  unfold preS
  show sumN _ n + cst w p ((l ++ [s]).getD n 0) ((l ++ [s]).getD (n + 1) 0) = _
  rw [getD_ap2 h, getD_ap1 (by omega), sumN_cong n (fun j hj => by rw [getD_ap1 (by omega), getD_ap1 (by omega)])]
theorem preM_ap {w : Nat → Int} {l : List Nat} {n s : Nat} (h : l.length = n + 1) : preM w (l ++ [s]) (n + 1) = max (preM w l n) (cst w 0 (l.getD n 0) s) := by
  unfold preM
  show max (mxN _ n) (cst w 0 ((l ++ [s]).getD n 0) ((l ++ [s]).getD (n + 1) 0)) = _
  rw [getD_ap2 h, getD_ap1 (by omega), mxN_cong n (fun j hj => by rw [getD_ap1 (by omega), getD_ap1 (by omega)])]
theorem preS_b {w : Nat → Int} (hw : WF w) {p : Int} (hp : 0 ≤ p) (l : List Nat) : ∀ n : Nat, 0 ≤ preS w p l n ∧ preS w p l n ≤ 99 * n
  | 0 => ⟨Int.le_refl _, Int.le_refl _⟩
  | n + 1 => by
    have a := preS_b hw hp l n
    have b := cst_ok hw hp (l.getD n 0) (l.getD (n + 1) 0)
    have e : preS w p l (n + 1) = preS w p l n + cst w p (l.getD n 0) (l.getD (n + 1) 0) := rfl
    rw [e]
    omega
theorem preM_b {w : Nat → Int} (hw : WF w) (l : List Nat) (n : Nat) : 0 ≤ preM w l n ∧ preM w l n ≤ 99 := mxN_b (by decide) n (fun j _ => (cst_ok hw (Int.le_refl 0) _ _).2)
