/-! the model's questions about staves -/
/-- what a question of the model needs: its row 'now' -/
def MX (σ : St) (w : Nat → Int) : Prop := Std σ ∧ gG σ 78 = w ∧ WF w
theorem MR.mx {σ : St} {A : Ab} {N : Nat} (h : MR σ A) (hA : AI A N) : MX σ (aW A) := ⟨h.1, h.2.1.1, hA.1⟩
theorem c_mCounts (g : Gl) (σ : St) (w : Nat → Int) (hX : MX σ w) (s : Nat) (hs : (s : Int) < w 4) : Ct g mX12_countsOf 1 0 0 [vq (some 77), vi (s : Int)] σ (rP (vi (cnt w s)) σ) := by
  refine Ct.of (by decide +kernel) (Nat.le_of_ble_eq_true rfl) ?_
  obtain ⟨hS, h78, hw⟩ := hX
  have b4 := hw.2.2.2.2.1
  have hb := hw.s hs
  refine V_aload_n dX12_countsOf_0 rfl ?_
  refine V_getfr dX12_countsOf_1 sf_RX12_9 (by decide) (sh hS rfl) (rf hS rfl) ?_
  refine V_bipush dX12_countsOf_4 (by decide) ?_
  refine V_iload_n dX12_countsOf_6 rfl ?_
  refine V_iadd dX12_countsOf_7 ?_
  refine V_iald dX12_countsOf_8 (sh hS rfl) (by omega) ?_
  refine V_val (mw h78 (k := 16 + s) (by omega)) ?_
  refine V_istore_n dX12_countsOf_9 (by decide) rfl ?_
  refine V_iconst dX12_countsOf_10 ?_
  refine V_iload_n dX12_countsOf_11 rfl ?_
  refine V_iconst dX12_countsOf_12 ?_
  refine V_isub dX12_countsOf_13 ?_
  refine V_max dX12_countsOf_14 sm_RX12_83 (by decide) (by decide) (Nat.le_of_ble_eq_true rfl) (by omega) (by omega) ?_
  refine V_istore_n dX12_countsOf_17 (by decide) rfl ?_
  refine V_aload_n dX12_countsOf_18 rfl ?_
  refine V_getfr dX12_countsOf_19 sf_RX12_9 (by decide) (sh hS rfl) (rf hS rfl) ?_
  refine V_bipush dX12_countsOf_22 (by decide) ?_
  refine V_iload_n dX12_countsOf_24 rfl ?_
  refine V_iadd dX12_countsOf_25 ?_
  refine V_iald dX12_countsOf_26 (sh hS rfl) (by omega) ?_
  refine V_val (mw h78 (k := 7 + s) (by omega)) ?_
  refine V_tsw4 (td := 70) (t0 := 56) (t1 := 70) (t2 := 58) (t3 := 62) dX12_countsOf_27 (by omega) rfl (by decide) (by decide) (by decide) (by decide) (by decide) (fun br27 => ?_) (fun br27 => ?_) (fun br27 => ?_) (fun br27 => ?_) (fun br27 => ?_)
  · refine V_iload_n dX12_countsOf_70 rfl ?_
    refine V_iret dX12_countsOf_71 rfl (Nat.le_refl _) (Nat.le_refl _) ?_
    exact rP_i (by unfold cnt cntK; (repeat' split) <;> omega) rfl
  · refine V_iload_n dX12_countsOf_56 rfl ?_
    refine V_iret dX12_countsOf_57 rfl (Nat.le_refl _) (Nat.le_refl _) ?_
    exact rP_i (by unfold cnt cntK; (repeat' split) <;> omega) rfl
  · refine V_iload_n dX12_countsOf_70 rfl ?_
    refine V_iret dX12_countsOf_71 rfl (Nat.le_refl _) (Nat.le_refl _) ?_
    exact rP_i (by unfold cnt cntK; (repeat' split) <;> omega) rfl
  · refine V_iload_n dX12_countsOf_58 rfl ?_
    refine V_iconst dX12_countsOf_59 ?_
    refine V_iadd dX12_countsOf_60 ?_
    refine V_iret dX12_countsOf_61 rfl (Nat.le_refl _) (Nat.le_refl _) ?_
    exact rP_i (by unfold cnt cntK; (repeat' split) <;> omega) rfl
  · refine V_iconst dX12_countsOf_62 ?_
    refine V_iload_n dX12_countsOf_63 rfl ?_
    refine V_iconst dX12_countsOf_64 ?_
    refine V_idiv dX12_countsOf_65 (by omega) ?_
    refine V_max dX12_countsOf_66 sm_RX12_83 (by decide) (by decide) (Nat.le_of_ble_eq_true rfl) (by omega) (by omega) ?_
    refine V_iret dX12_countsOf_69 rfl (Nat.le_refl _) (Nat.le_refl _) ?_
    exact rP_i (by unfold cnt cntK; (repeat' split) <;> omega) rfl
theorem c_mEdge (g : Gl) (σ : St) (w : Nat → Int) (hX : MX σ w) (s : Nat) (hs : (s : Int) < w 4) : Ct g mX12_edgeOf 0 0 0 [vq (some 77), vi (s : Int)] σ (rP (vi (edg w s)) σ) := by
  refine Ct.of (by decide +kernel) (Nat.le_of_ble_eq_true rfl) ?_
  obtain ⟨hS, h78, hw⟩ := hX
  have b4 := hw.2.2.2.2.1
  have hb := hw.s hs
  refine V_aload_n dX12_edgeOf_0 rfl ?_
  refine V_getfr dX12_edgeOf_1 sf_RX12_9 (by decide) (sh hS rfl) (rf hS rfl) ?_
  refine V_bipush dX12_edgeOf_4 (by decide) ?_
  refine V_iload_n dX12_edgeOf_6 rfl ?_
  refine V_iadd dX12_edgeOf_7 ?_
  refine V_iald dX12_edgeOf_8 (sh hS rfl) (by omega) ?_
  refine V_val (mw h78 (k := 7 + s) (by omega)) ?_
  refine V_istore_n dX12_edgeOf_9 (by decide) rfl ?_
  refine V_aload_n dX12_edgeOf_10 rfl ?_
  refine V_getfr dX12_edgeOf_11 sf_RX12_9 (by decide) (sh hS rfl) (rf hS rfl) ?_
  refine V_bipush dX12_edgeOf_14 (by decide) ?_
  refine V_iload_n dX12_edgeOf_16 rfl ?_
  refine V_iadd dX12_edgeOf_17 ?_
  refine V_iald dX12_edgeOf_18 (sh hS rfl) (by omega) ?_
  refine V_val (mw h78 (k := 34 + s) (by omega)) ?_
  refine V_istore_n dX12_edgeOf_19 (by decide) rfl ?_
  refine V_iload_n dX12_edgeOf_20 rfl ?_
  refine V_iconst dX12_edgeOf_21 ?_
  refine V_icmpeq (tgt := 30) dX12_edgeOf_22 (by decide) (by omega) (by omega) (fun br22 => ?_) (fun br22 => ?_)
  · refine V_iload_n dX12_edgeOf_30 rfl ?_
    refine V_iconst dX12_edgeOf_31 ?_
    refine V_iadd dX12_edgeOf_32 ?_
    refine V_goto (tgt := 48) dX12_edgeOf_33 (by decide) ?_
    refine V_iret dX12_edgeOf_48 rfl (Nat.le_refl _) (Nat.le_refl _) ?_
    exact rP_i (by unfold edg edgeK; (repeat' split) <;> omega) rfl
  · refine V_iload_n dX12_edgeOf_25 rfl ?_
    refine V_iconst dX12_edgeOf_26 ?_
    refine V_icmpne (tgt := 36) dX12_edgeOf_27 (by decide) (by omega) (by omega) (fun br27 => ?_) (fun br27 => ?_)
    · refine V_iload_n dX12_edgeOf_36 rfl ?_
      refine V_iconst dX12_edgeOf_37 ?_
      refine V_icmpne (tgt := 47) dX12_edgeOf_38 (by decide) (by omega) (by omega) (fun br38 => ?_) (fun br38 => ?_)
      · refine V_iload_n dX12_edgeOf_47 rfl ?_
        refine V_iret dX12_edgeOf_48 rfl (Nat.le_refl _) (Nat.le_refl _) ?_
        exact rP_i (by unfold edg edgeK; (repeat' split) <;> omega) rfl
      · refine V_iload_n dX12_edgeOf_41 rfl ?_
        refine V_iconst dX12_edgeOf_42 ?_
        refine V_isub dX12_edgeOf_43 ?_
        refine V_goto (tgt := 48) dX12_edgeOf_44 (by decide) ?_
        refine V_iret dX12_edgeOf_48 rfl (Nat.le_refl _) (Nat.le_refl _) ?_
        exact rP_i (by unfold edg edgeK; (repeat' split) <;> omega) rfl
    · refine V_iload_n dX12_edgeOf_30 rfl ?_
      refine V_iconst dX12_edgeOf_31 ?_
      refine V_iadd dX12_edgeOf_32 ?_
      refine V_goto (tgt := 48) dX12_edgeOf_33 (by decide) ?_
      refine V_iret dX12_edgeOf_48 rfl (Nat.le_refl _) (Nat.le_refl _) ?_
      exact rP_i (by unfold edg edgeK; (repeat' split) <;> omega) rfl
theorem c_mPrice (g : Gl) (σ : St) (w : Nat → Int) (hX : MX σ w) (s : Nat) (hs : (s : Int) < w 4) : Ct g mX12_priceOf 0 0 0 [vq (some 77), vi (s : Int)] σ (rP (vi (pri w s)) σ) := by
  refine Ct.of (by decide +kernel) (Nat.le_of_ble_eq_true rfl) ?_
  obtain ⟨hS, h78, hw⟩ := hX
  have b4 := hw.2.2.2.2.1
  have hb := hw.s hs
  have hm := mul_bd (a := w (16 + s)) (b := w (25 + s)) (A := 99) (B := 9) (by omega) (by omega)
  have hv : ∀ v, (w (7 + s) = 1 ∨ w (7 + s) = 4 → v = w (16 + s) * w (25 + s) / 2) → (¬ (w (7 + s) = 1 ∨ w (7 + s) = 4) → w (7 + s) = 3 → v = w (16 + s) * w (25 + s) + 7) → (¬ (w (7 + s) = 1 ∨ w (7 + s) = 4) → w (7 + s) ≠ 3 → v = w (16 + s) * w (25 + s)) → v = pri w s := fun v q1 q2 q3 => by
    unfold pri priceK
    by_cases z1 : w (7 + s) = 1 ∨ w (7 + s) = 4
    · rw [if_pos z1]; exact q1 z1
    · rw [if_neg z1]
      by_cases z2 : w (7 + s) = 3
      · rw [if_pos z2]; exact q2 z1 z2
      · rw [if_neg z2]; exact q3 z1 z2
  refine V_aload_n dX12_priceOf_0 rfl ?_
  refine V_getfr dX12_priceOf_1 sf_RX12_9 (by decide) (sh hS rfl) (rf hS rfl) ?_
  refine V_bipush dX12_priceOf_4 (by decide) ?_
  refine V_iload_n dX12_priceOf_6 rfl ?_
  refine V_iadd dX12_priceOf_7 ?_
  refine V_iald dX12_priceOf_8 (sh hS rfl) (by omega) ?_
  refine V_val (mw h78 (k := 7 + s) (by omega)) ?_
  refine V_istore_n dX12_priceOf_9 (by decide) rfl ?_
  refine V_aload_n dX12_priceOf_10 rfl ?_
  refine V_getfr dX12_priceOf_11 sf_RX12_9 (by decide) (sh hS rfl) (rf hS rfl) ?_
  refine V_bipush dX12_priceOf_14 (by decide) ?_
  refine V_iload_n dX12_priceOf_16 rfl ?_
  refine V_iadd dX12_priceOf_17 ?_
  refine V_iald dX12_priceOf_18 (sh hS rfl) (by omega) ?_
  refine V_val (mw h78 (k := 16 + s) (by omega)) ?_
  refine V_aload_n dX12_priceOf_19 rfl ?_
  refine V_getfr dX12_priceOf_20 sf_RX12_9 (by decide) (sh hS rfl) (rf hS rfl) ?_
  refine V_bipush dX12_priceOf_23 (by decide) ?_
  refine V_iload_n dX12_priceOf_25 rfl ?_
  refine V_iadd dX12_priceOf_26 ?_
  refine V_iald dX12_priceOf_27 (sh hS rfl) (by omega) ?_
  refine V_val (mw h78 (k := 25 + s) (by omega)) ?_
  refine V_imul dX12_priceOf_28 ?_
  refine V_istore_n dX12_priceOf_29 (by decide) rfl ?_
  refine V_iload_n dX12_priceOf_30 rfl ?_
  refine V_iconst dX12_priceOf_31 ?_
  refine V_icmpeq (tgt := 40) dX12_priceOf_32 (by decide) (by omega) (by omega) (fun br32 => ?_) (fun br32 => ?_)
  · refine V_iload_n dX12_priceOf_40 rfl ?_
    refine V_iconst dX12_priceOf_41 ?_
    refine V_idiv dX12_priceOf_42 (by omega) ?_
    refine V_goto (tgt := 59) dX12_priceOf_43 (by decide) ?_
    refine V_iret dX12_priceOf_59 rfl (Nat.le_refl _) (Nat.le_refl _) ?_
    exact rP_i (hv _ (fun _ => by first | rfl | (exfalso; omega)) (fun _ _ => by first | rfl | (exfalso; omega)) (fun _ _ => by first | rfl | (exfalso; omega))) rfl
  · refine V_iload_n dX12_priceOf_35 rfl ?_
    refine V_iconst dX12_priceOf_36 ?_
    refine V_icmpne (tgt := 46) dX12_priceOf_37 (by decide) (by omega) (by omega) (fun br37 => ?_) (fun br37 => ?_)
    · refine V_iload_n dX12_priceOf_46 rfl ?_
      refine V_iconst dX12_priceOf_47 ?_
      refine V_icmpne (tgt := 58) dX12_priceOf_48 (by decide) (by omega) (by omega) (fun br48 => ?_) (fun br48 => ?_)
      · refine V_iload_n dX12_priceOf_58 rfl ?_
        refine V_iret dX12_priceOf_59 rfl (Nat.le_refl _) (Nat.le_refl _) ?_
        exact rP_i (hv _ (fun _ => by first | rfl | (exfalso; omega)) (fun _ _ => by first | rfl | (exfalso; omega)) (fun _ _ => by first | rfl | (exfalso; omega))) rfl
      · refine V_iload_n dX12_priceOf_51 rfl ?_
        refine V_bipush dX12_priceOf_52 (by decide) ?_
        refine V_iadd dX12_priceOf_54 ?_
        refine V_goto (tgt := 59) dX12_priceOf_55 (by decide) ?_
        refine V_iret dX12_priceOf_59 rfl (Nat.le_refl _) (Nat.le_refl _) ?_
        exact rP_i (hv _ (fun _ => by first | rfl | (exfalso; omega)) (fun _ _ => by first | rfl | (exfalso; omega)) (fun _ _ => by first | rfl | (exfalso; omega))) rfl
    · refine V_iload_n dX12_priceOf_40 rfl ?_
      refine V_iconst dX12_priceOf_41 ?_
      refine V_idiv dX12_priceOf_42 (by omega) ?_
      refine V_goto (tgt := 59) dX12_priceOf_43 (by decide) ?_
      refine V_iret dX12_priceOf_59 rfl (Nat.le_refl _) (Nat.le_refl _) ?_
      exact rP_i (hv _ (fun _ => by first | rfl | (exfalso; omega)) (fun _ _ => by first | rfl | (exfalso; omega)) (fun _ _ => by first | rfl | (exfalso; omega))) rfl
theorem c_mRoot (g : Gl) (σ : St) (v : Int) (h0 : 0 ≤ v) (h1 : v ≤ 65535) : Ct g mX12_root 0 0 0 [vi v] σ (rP (vi (rt v)) σ) := by
  refine Ct.of (by decide +kernel) (Nat.le_of_ble_eq_true rfl) ?_
  have loop : ∀ (m : Nat) (r : Int), r + m = 256 → 0 ≤ r → r * r ≤ v →
      V g mX12_root (rmD 0 0 0) (QM g 0 0 (rP (vi (rt v)) σ)) 2 [some (vi v), some (vi r)] [] 0 0 σ := by
    intro m
    induction m with
    | zero =>
      intro r hr h3 h4
      exfalso
      have : r = 256 := by omega
      subst this
      omega
    | succ m ih =>
      intro r hr h3 h4
      have k3 := sq_bd (a := r + 1) (by omega) (by omega)
      refine V_iload_n dX12_root_2 rfl ?_
      refine V_iconst dX12_root_3 ?_
      refine V_iadd dX12_root_4 ?_
      refine V_iload_n dX12_root_5 rfl ?_
      refine V_iconst dX12_root_6 ?_
      refine V_iadd dX12_root_7 ?_
      refine V_imul dX12_root_8 ?_
      refine V_iload_n dX12_root_9 rfl ?_
      refine V_icmpgt (tgt := 19) dX12_root_10 (by decide) (by omega) (by omega) (fun br10 => ?_) (fun br10 => ?_)
      · refine V_iload_n dX12_root_19 rfl ?_
        refine V_iret dX12_root_20 rfl (Nat.le_refl _) (Nat.le_refl _) ?_
        exact rP_i (rt_uniq h0 h3 h4 br10) rfl
      · refine V_iinc dX12_root_13 rfl (by decide) rfl ?_
        refine V_goto (tgt := 2) dX12_root_16 (by decide) ?_
        refine V_mask [true, true] ?_
        exact ih _ (by omega) (by omega) (Int.not_lt.mp br10)
  refine V_iconst dX12_root_0 ?_
  refine V_istore_n dX12_root_1 (by decide) rfl ?_
  refine V_mask [true, true] ?_
  exact loop 256 0 rfl (Int.le_refl _) h0
theorem c_mSag (g : Gl) (σ : St) (w : Nat → Int) (hX : MX σ w) (s : Nat) (hs : (s : Int) < w 4) : Ct g mX12_sagOf 2 0 0 [vq (some 77), vi (s : Int)] σ (rP (vi (sagK (cnt w s) (w 0))) σ) := by
  refine Ct.of (by decide +kernel) (Nat.le_of_ble_eq_true rfl) ?_
  have hX0 := hX
  obtain ⟨hS, h78, hw⟩ := hX
  have b0 := hw.1
  have hb := hw.s hs
  have h0 : 1 ≤ cnt w s ∧ cnt w s ≤ 101 := cntK_b hb.2.1
  have hA := acr_b b0
  unfold sagK
  generalize hq : acr (w 0) = Q at hA ⊢
  unfold acr at hq
  have m1 := sq_bd (a := Q) (by omega) (by omega)
  have m2 := mul_bd (a := Q) (b := Q) (A := 158) (B := 158) (by omega) (by omega)
  have m3 := sq_bd (a := cnt w s) (by omega) (by omega)
  refine V_iconst dX12_sagOf_0 ?_
  refine V_aload_n dX12_sagOf_1 rfl ?_
  refine V_getfr dX12_sagOf_2 sf_RX12_9 (by decide) (sh hS rfl) (rf hS rfl) ?_
  refine V_iconst dX12_sagOf_5 ?_
  refine V_iald dX12_sagOf_6 (sh hS rfl) (by omega) ?_
  refine V_val (mw h78 (k := 0) rfl) ?_
  refine V_bipush dX12_sagOf_7 (by decide) ?_
  refine V_imul dX12_sagOf_9 ?_
  refine V_sipush dX12_sagOf_10 (by decide) ?_
  refine V_idiv dX12_sagOf_13 (by omega) ?_
  refine V_imul dX12_sagOf_14 ?_
  refine V_val (show _ = Q by rw [← hq, Int.mul_comm (w 0) 113]) ?_
  refine V_istore_n dX12_sagOf_15 (by decide) rfl ?_
  refine V_aload_n dX12_sagOf_16 rfl ?_
  refine V_iload_n dX12_sagOf_17 rfl ?_
  refine V_callV dX12_sagOf_18 (c_mCounts g _ w hX0 s hs) sv_RX12_89 (sh hS rfl) rfl ⟨⟨by decide, by decide⟩, ⟨by decide, by decide⟩⟩ (Nat.le_of_ble_eq_true rfl) (fun r18 s18 p18 => ?_)
  obtain ⟨rfl, rfl⟩ := p18
  refine V_istore_n dX12_sagOf_21 (by decide) rfl ?_
  refine V_iload_n dX12_sagOf_22 rfl ?_
  refine V_iload_n dX12_sagOf_23 rfl ?_
  refine V_icmple (tgt := 32) dX12_sagOf_24 (by decide) (by omega) (by omega) (fun br24 => ?_) (fun br24 => ?_)
  · refine V_iload_n dX12_sagOf_32 rfl ?_
    refine V_iload_n dX12_sagOf_33 rfl ?_
    refine V_iload_n dX12_sagOf_34 rfl ?_
    refine V_imul dX12_sagOf_35 ?_
    refine V_iload_n dX12_sagOf_36 rfl ?_
    refine V_iload_n dX12_sagOf_37 rfl ?_
    refine V_imul dX12_sagOf_38 ?_
    refine V_isub dX12_sagOf_39 ?_
    refine V_callS dX12_sagOf_40 (c_mRoot g _ _ (by have := Int.mul_le_mul br24 br24 (by omega) (by omega : (0 : Int) ≤ Q); omega) (by omega)) ss_RX12_93 rfl ⟨⟨by decide, by decide⟩, ⟨by decide, by decide⟩⟩ (Nat.le_of_ble_eq_true rfl) (fun r40 s40 p40 => ?_)
    obtain ⟨rfl, rfl⟩ := p40
    have m4 : 0 ≤ Q * Q - cnt w s * cnt w s := by have := Int.mul_le_mul br24 br24 (by omega) (by omega : (0 : Int) ≤ Q); omega
    have m5 := rt_0 (Q * Q - cnt w s * cnt w s)
    have m6 : rt (Q * Q - cnt w s * cnt w s) < Q + 1 := by
      have k1 := rt_le m4
      have k2 : (Q + 1) * (Q + 1) = Q * Q + 2 * Q + 1 := by rw [Int.add_mul, Int.mul_add]; omega
      exact sq_lt m5 (by omega) (by omega)
    refine V_isub dX12_sagOf_43 ?_
    refine V_iconst dX12_sagOf_44 ?_
    refine V_idiv dX12_sagOf_45 (by omega) ?_
    refine V_iret dX12_sagOf_46 rfl (Nat.le_refl _) (Nat.le_refl _) ?_
    first | exact rP_i (if_pos (by omega)).symm rfl | exact rP_i (if_neg (by omega)).symm rfl
  · refine V_bipush dX12_sagOf_27 (by decide) ?_
    refine V_goto (tgt := 46) dX12_sagOf_29 (by decide) ?_
    refine V_iret dX12_sagOf_46 rfl (Nat.le_refl _) (Nat.le_refl _) ?_
    first | exact rP_i (if_pos (by omega)).symm rfl | exact rP_i (if_neg (by omega)).symm rfl
theorem c_mOfStave (g : Gl) (σ : St) (w : Nat → Int) (hX : MX σ w) (s what : Int) (h1 : inR s) (h2 : inR what) : Ct g mX12_ofStave 3 0 0 [vq (some 77), vi s, vi what] σ (rP (vi (ofStaveA w s what)) σ) := by
  refine Ct.of (by decide +kernel) (Nat.le_of_ble_eq_true rfl) ?_
  have hX0 := hX
  obtain ⟨hS, h78, hw⟩ := hX
  have b4 := hw.2.2.2.2.1
  by_cases hq : 0 ≤ s ∧ s < w 4
  · obtain ⟨n, rfl⟩ : ∃ n : Nat, s = (n : Int) := ⟨s.toNat, by omega⟩
    have hb := hw.s (i := n) (by omega)
    have hv : (0 ≤ what ∧ what ≤ 7) → ofStaveA w n what = (if what = 0 then w (7 + n) else if what = 1 then w (16 + n) else if what = 2 then w (25 + n) else if what = 3 then w (34 + n) + 100 else if what = 4 then cnt w n else if what = 5 then edg w n + 100 else if what = 6 then pri w n else sagK (cnt w n) (w 0)) := fun z => by
      unfold ofStaveA
      rw [if_pos ⟨hq, z⟩, Int.toNat_natCast]
    refine V_aload_n dX12_ofStave_0 rfl ?_
    refine V_iload_n dX12_ofStave_1 rfl ?_
    refine V_callV dX12_ofStave_2 (c_mHasStave g _ w hS h78 hw (n : Int) h1) sv_RX12_96 (sh hS rfl) rfl ⟨⟨by decide, by decide⟩, ⟨by decide, by decide⟩⟩ (Nat.le_of_ble_eq_true rfl) (fun r2 s2 p2 => ?_)
    obtain ⟨rfl, rfl⟩ := p2
    refine V_ifeqB (tgt := 18) dX12_ofStave_5 (by decide) (fun br5 => ?_) (fun br5 => ?_)
    · exact absurd hq br5
    · refine V_iload_n dX12_ofStave_8 rfl ?_
      refine V_iconst dX12_ofStave_9 ?_
      refine V_bipush dX12_ofStave_10 (by decide) ?_
      refine V_callS dX12_ofStave_12 (c_within g _ _ _ _ (by omega) (by omega) (by omega)) ss_RX12_58 rfl ⟨⟨by decide, by decide⟩, ⟨by decide, by decide⟩⟩ (Nat.le_of_ble_eq_true rfl) (fun r12 s12 p12 => ?_)
      obtain ⟨rfl, rfl⟩ := p12
      refine V_ifneB (tgt := 20) dX12_ofStave_15 (by decide) (fun br15 => ?_) (fun br15 => ?_)
      · refine V_iload_n dX12_ofStave_20 rfl ?_
        refine V_tsw7 (td := 128) (t0 := 64) (t1 := 74) (t2 := 84) (t3 := 94) (t4 := 107) (t5 := 113) (t6 := 122) dX12_ofStave_21 (by omega) rfl (by decide) (by decide) (by decide) (by decide) (by decide) (by decide) (by decide) (by decide) (fun br21 => ?_) (fun br21 => ?_) (fun br21 => ?_) (fun br21 => ?_) (fun br21 => ?_) (fun br21 => ?_) (fun br21 => ?_) (fun br21 => ?_)
        · refine V_aload_n dX12_ofStave_128 rfl ?_
          refine V_iload_n dX12_ofStave_129 rfl ?_
          refine V_callV dX12_ofStave_130 (c_mSag g _ w hX0 n (by omega)) sv_RX12_106 (sh hS rfl) rfl ⟨⟨by decide, by decide⟩, ⟨by decide, by decide⟩⟩ (Nat.le_of_ble_eq_true rfl) (fun r130 s130 p130 => ?_)
          obtain ⟨rfl, rfl⟩ := p130
          refine V_iret dX12_ofStave_133 rfl (Nat.le_refl _) (Nat.le_refl _) ?_
          exact rP_i (by
            rw [hv br15]
            (repeat' split) <;> first | rfl | (exfalso; omega)) rfl
        · refine V_aload_n dX12_ofStave_64 rfl ?_
          refine V_getfr dX12_ofStave_65 sf_RX12_9 (by decide) (sh hS rfl) (rf hS rfl) ?_
          refine V_bipush dX12_ofStave_68 (by decide) ?_
          refine V_iload_n dX12_ofStave_70 rfl ?_
          refine V_iadd dX12_ofStave_71 ?_
          refine V_iald dX12_ofStave_72 (sh hS rfl) (by omega) ?_
          refine V_val (mw h78 (k := 7 + n) (by omega)) ?_
          refine V_iret dX12_ofStave_73 rfl (Nat.le_refl _) (Nat.le_refl _) ?_
          exact rP_i (by
            rw [hv br15]
            (repeat' split) <;> first | rfl | (exfalso; omega)) rfl
        · refine V_aload_n dX12_ofStave_74 rfl ?_
          refine V_getfr dX12_ofStave_75 sf_RX12_9 (by decide) (sh hS rfl) (rf hS rfl) ?_
          refine V_bipush dX12_ofStave_78 (by decide) ?_
          refine V_iload_n dX12_ofStave_80 rfl ?_
          refine V_iadd dX12_ofStave_81 ?_
          refine V_iald dX12_ofStave_82 (sh hS rfl) (by omega) ?_
          refine V_val (mw h78 (k := 16 + n) (by omega)) ?_
          refine V_iret dX12_ofStave_83 rfl (Nat.le_refl _) (Nat.le_refl _) ?_
          exact rP_i (by
            rw [hv br15]
            (repeat' split) <;> first | rfl | (exfalso; omega)) rfl
        · refine V_aload_n dX12_ofStave_84 rfl ?_
          refine V_getfr dX12_ofStave_85 sf_RX12_9 (by decide) (sh hS rfl) (rf hS rfl) ?_
          refine V_bipush dX12_ofStave_88 (by decide) ?_
          refine V_iload_n dX12_ofStave_90 rfl ?_
          refine V_iadd dX12_ofStave_91 ?_
          refine V_iald dX12_ofStave_92 (sh hS rfl) (by omega) ?_
          refine V_val (mw h78 (k := 25 + n) (by omega)) ?_
          refine V_iret dX12_ofStave_93 rfl (Nat.le_refl _) (Nat.le_refl _) ?_
          exact rP_i (by
            rw [hv br15]
            (repeat' split) <;> first | rfl | (exfalso; omega)) rfl
        · refine V_aload_n dX12_ofStave_94 rfl ?_
          refine V_getfr dX12_ofStave_95 sf_RX12_9 (by decide) (sh hS rfl) (rf hS rfl) ?_
          refine V_bipush dX12_ofStave_98 (by decide) ?_
          refine V_iload_n dX12_ofStave_100 rfl ?_
          refine V_iadd dX12_ofStave_101 ?_
          refine V_iald dX12_ofStave_102 (sh hS rfl) (by omega) ?_
          refine V_val (mw h78 (k := 34 + n) (by omega)) ?_
          refine V_bipush dX12_ofStave_103 (by decide) ?_
          refine V_iadd dX12_ofStave_105 ?_
          refine V_iret dX12_ofStave_106 rfl (Nat.le_refl _) (Nat.le_refl _) ?_
          exact rP_i (by
            rw [hv br15]
            (repeat' split) <;> first | rfl | (exfalso; omega)) rfl
        · refine V_aload_n dX12_ofStave_107 rfl ?_
          refine V_iload_n dX12_ofStave_108 rfl ?_
          refine V_callV dX12_ofStave_109 (c_mCounts g _ w hX0 n (by omega)) sv_RX12_89 (sh hS rfl) rfl ⟨⟨by decide, by decide⟩, ⟨by decide, by decide⟩⟩ (Nat.le_of_ble_eq_true rfl) (fun r109 s109 p109 => ?_)
          obtain ⟨rfl, rfl⟩ := p109
          refine V_iret dX12_ofStave_112 rfl (Nat.le_refl _) (Nat.le_refl _) ?_
          exact rP_i (by
            rw [hv br15]
            (repeat' split) <;> first | rfl | (exfalso; omega)) rfl
        · refine V_aload_n dX12_ofStave_113 rfl ?_
          refine V_iload_n dX12_ofStave_114 rfl ?_
          refine V_callV dX12_ofStave_115 (c_mEdge g _ w hX0 n (by omega)) sv_RX12_100 (sh hS rfl) rfl ⟨⟨by decide, by decide⟩, ⟨by decide, by decide⟩⟩ (Nat.le_of_ble_eq_true rfl) (fun r115 s115 p115 => ?_)
          obtain ⟨rfl, rfl⟩ := p115
          refine V_bipush dX12_ofStave_118 (by decide) ?_
          refine V_iadd dX12_ofStave_120 ?_
          refine V_iret dX12_ofStave_121 rfl (Nat.le_refl _) (Nat.le_refl _) ?_
          exact rP_i (by
            rw [hv br15]
            (repeat' split) <;> first | rfl | (exfalso; omega)) rfl
        · refine V_aload_n dX12_ofStave_122 rfl ?_
          refine V_iload_n dX12_ofStave_123 rfl ?_
          refine V_callV dX12_ofStave_124 (c_mPrice g _ w hX0 n (by omega)) sv_RX12_103 (sh hS rfl) rfl ⟨⟨by decide, by decide⟩, ⟨by decide, by decide⟩⟩ (Nat.le_of_ble_eq_true rfl) (fun r124 s124 p124 => ?_)
          obtain ⟨rfl, rfl⟩ := p124
          refine V_iret dX12_ofStave_127 rfl (Nat.le_refl _) (Nat.le_refl _) ?_
          exact rP_i (by
            rw [hv br15]
            (repeat' split) <;> first | rfl | (exfalso; omega)) rfl
      · refine V_iconst dX12_ofStave_18 ?_
        refine V_iret dX12_ofStave_19 rfl (Nat.le_refl _) (Nat.le_refl _) ?_
        exact rP_i (if_neg (fun z => br15 z.2)).symm rfl
  · refine V_aload_n dX12_ofStave_0 rfl ?_
    refine V_iload_n dX12_ofStave_1 rfl ?_
    refine V_callV dX12_ofStave_2 (c_mHasStave g _ w hS h78 hw s h1) sv_RX12_96 (sh hS rfl) rfl ⟨⟨by decide, by decide⟩, ⟨by decide, by decide⟩⟩ (Nat.le_of_ble_eq_true rfl) (fun r2 s2 p2 => ?_)
    obtain ⟨rfl, rfl⟩ := p2
    refine V_ifeqB (tgt := 18) dX12_ofStave_5 (by decide) (fun br5 => ?_) (fun br5 => ?_)
    · refine V_iconst dX12_ofStave_18 ?_
      refine V_iret dX12_ofStave_19 rfl (Nat.le_refl _) (Nat.le_refl _) ?_
      exact rP_i (if_neg (fun z => hq z.1)).symm rfl
    · exact absurd br5 hq