def PO (σ τ : St) (b : Nat) (f : Nat → Int) : Prop := gl τ = gl σ ∧ gn τ = gn σ ∧ gL τ = gL σ ∧ gP τ = gP σ ∧ (∀ c, c ≠ b → gG τ c = gG σ c) ∧ gG τ b = f
theorem PO.fc {σ τ : St} {b : Nat} {f : Nat → Int} (h : PO σ τ b f) (hb : 77 ≤ b ∧ b < 93) : FC σ τ := ⟨h.1, h.2.1, h.2.2.2.1, fun a ha => ⟨h.2.2.2.2.1 a (by omega), by rw [h.2.2.1]⟩⟩
theorem c_pours (g : Gl) (σ : St) (a b : Nat) (ha : gl σ a = some (.inr (0, 77))) (hb : gl σ b = some (.inr (0, 77))) (hab : a ≠ b) : Ct g mX12_pours 0 0 0 [vq (some a), vq (some b)] σ (fun r τ => r = none ∧ PO σ τ b (pour (gG σ a) (gG σ b))) := by
  refine Ct.of (by decide +kernel) (Nat.le_of_ble_eq_true rfl) ?_
  have loop : ∀ (m k : Nat) (τ : St), k + m = 77 → PO σ τ b (fun j => if j < k then gG σ a j else gG σ b j) →
      V g mX12_pours (rmD 0 0 0) (QM g 0 0 (fun r τ => r = none ∧ PO σ τ b (pour (gG σ a) (gG σ b)))) 2 [some (vq (some a)), some (vq (some b)), some (vi (k : Int))] [] 0 0 τ := by
    intro m
    induction m with
    | zero =>
      intro k τ hk hO
      have e : k = 77 := by omega
      subst e
      refine V_iload_n dX12_pours_2 rfl ?_
      refine V_bipush dX12_pours_3 (by decide) ?_
      refine V_icmpge (tgt := 20) dX12_pours_5 (by decide) (by omega) (by omega) (fun br5 => ?_) (fun br5 => ?_)
      · refine V_vret dX12_pours_20 rfl (Nat.le_refl _) (Nat.le_refl _) ?_
        exact ⟨rfl, hO⟩
      · omega
    | succ m ih =>
      intro k τ hk hO
      refine V_iload_n dX12_pours_2 rfl ?_
      refine V_bipush dX12_pours_3 (by decide) ?_
      refine V_icmpge (tgt := 20) dX12_pours_5 (by decide) (by omega) (by omega) (fun br5 => ?_) (fun br5 => ?_)
      · omega
      · refine V_aload_n dX12_pours_8 rfl ?_
        refine V_iload_n dX12_pours_9 rfl ?_
        refine V_aload_n dX12_pours_10 rfl ?_
        refine V_iload_n dX12_pours_11 rfl ?_
        refine V_iald dX12_pours_12 (by rw [hO.1]; exact ha) (by omega) ?_
        refine V_val (show _ = gG σ a k by rw [hO.2.2.2.2.1 a hab]; rfl) ?_
        refine V_iast dX12_pours_13 (by rw [hO.1]; exact hb) (by omega) ?_
        refine V_iinc dX12_pours_14 rfl (by decide) rfl ?_
        refine V_goto (tgt := 2) dX12_pours_17 (by decide) ?_
        refine V_mask [true, true, true] ?_
        refine ih (k + 1) _ (by omega) ⟨hO.1, hO.2.1, hO.2.2.1, hO.2.2.2.1, fun c hc => (up1_ne _ hc _).trans (hO.2.2.2.2.1 c hc), ?_⟩
        have e1 : gG (setG τ b (k : Int).toNat (gG σ a k)) b = up1 (gG τ b) k (gG σ a k) := up1_is _ _ _
        rw [e1, hO.2.2.2.2.2]
        funext j
        show (if j = k then gG σ a k else if j < k then gG σ a j else gG σ b j) = if j < k + 1 then gG σ a j else gG σ b j
        by_cases q : j = k
        · subst q; rw [if_pos rfl, if_pos (by omega)]
        · rw [if_neg q]
          by_cases q2 : j < k
          · rw [if_pos q2, if_pos (by omega)]
          · rw [if_neg q2, if_neg (by omega)]
  refine V_iconst dX12_pours_0 ?_
  refine V_istore_n dX12_pours_1 (by decide) rfl ?_
  refine V_mask [true, true, true] ?_
  exact loop 77 0 _ rfl ⟨rfl, rfl, rfl, rfl, fun _ _ => rfl, funext fun j => (if_neg (Nat.not_lt_zero j)).symm⟩
theorem c_mImage (g : Gl) (σ : St) (A : Ab) (hM : MR σ A) : Ct g mX12_image 1 0 0 [vq (some 77)] σ (PM (aW A 4) (imageN A) σ) := by
  refine Ct.of (by decide +kernel) (Nat.le_of_ble_eq_true rfl) ?_
  obtain ⟨hS, ⟨m78, m79⟩, ⟨m3, m4, m5, m6⟩, m81, ⟨m87, m88, m89, m90⟩, m91⟩ := hM
  refine V_aload_n dX12_image_0 rfl ?_
  refine V_iconst dX12_image_1 ?_
  refine V_putz dX12_image_2 (sp_RX12_268 _) rfl (sh hS rfl) (by omega) ?_
  refine V_aload_n dX12_image_5 rfl ?_
  refine V_getfr dX12_image_6 sf_RX12_9 (by decide) (sh hS rfl) (rf hS rfl) ?_
  refine V_aload_n dX12_image_9 rfl ?_
  refine V_getfr dX12_image_10 sf_RX12_15 (by decide) (sh hS rfl) (rf hS rfl) ?_
  refine V_callS dX12_image_13 (c_pours g _ 78 79 (sh hS rfl) (sh hS rfl) (by decide)) ss_RX12_246 rfl ⟨⟨by decide, by decide⟩, ⟨by decide, by decide⟩⟩ (Nat.le_of_ble_eq_true rfl) (fun r13 s13 p13 => ?_)
  obtain ⟨rfl, hO⟩ := p13
  have hF : FC σ s13 := ((FC.rf σ).onG 3 1 (by decide)).tr (hO.fc (by decide))
  have o : ∀ c, c ≠ 79 → gG s13 c = gG (setG σ 77 3 1) c := hO.2.2.2.2.1
  have e79 := hO.2.2.2.2.2
  have e77 := o 77 (by decide)
  have hS := hF.std hS
  refine V_aload_n dX12_image_16 rfl ?_
  refine V_getfr dX12_image_17 sf_RX12_9 (by decide) (sh hS rfl) (rf hS rfl) ?_
  refine V_iconst dX12_image_20 ?_
  refine V_iald dX12_image_21 (sh hS rfl) (by omega) ?_
  refine V_val (show _ = aW A 4 by rw [o 78 (by decide)]; exact congrFun m78 4) ?_
  refine V_iret dX12_image_22 rfl (Nat.le_refl _) (Nat.le_refl _) ?_
  refine PM_i rfl ⟨hS, ⟨by rw [o 78 (by decide)]; exact m78, by rw [e79]; show pour (gG σ 78) (gG σ 79) = _; rw [m78, m79]; rfl⟩, ⟨by rw [e77]; rfl, by rw [e77]; exact m4, by rw [e77]; exact m5, by rw [e77]; exact m6⟩, by rw [o 81 (by decide)]; exact m81, ⟨by rw [o 87 (by decide)]; exact m87, by rw [o 88 (by decide)]; exact m88, by rw [o 89 (by decide)]; exact m89, by rw [o 90 (by decide)]; exact m90⟩, by rw [hO.2.2.1]; exact m91⟩ hF
def udI (A : Ab) (i : Nat) : Ab := (undW A i, aO A, up1 (aC A) 1 (aC A 1 + i), A.2.2.2)
theorem udI_c1 {A : Ab} {i : Nat} : aC (udI A i) 1 = aC A 1 + i := up1_is (aC A) 1 _
theorem udI_co {A : Ab} {i k : Nat} (h : k ≠ 1) : aC (udI A i) k = aC A k := up1_ne (aC A) h _
theorem c_mUndo (g : Gl) (σ : St) (A : Ab) (N : Nat) (hM : MR σ A) (hA : AI A N) : Ct g mX12_undo 1 0 0 [vq (some 77)] σ (PM (undoV A) (undoN A) σ) := by
  refine Ct.of (by decide +kernel) (Nat.le_of_ble_eq_true rfl) ?_
  have hM0 := hM
  obtain ⟨hS, ⟨m78, m79⟩, ⟨m3, m4, m5, m6⟩, m81, ⟨m87, m88, m89, m90⟩, m91⟩ := hM
  have c01 := hA.2.1.1
  have hth := hA.2.2.1
  by_cases h1 : aC A 0 = 1
  · have b4 := (hA.2.1.2 h1).2.2.2.2.1
    have eV : undoV A = aO A 4 := if_pos h1
    have eN : undoN A = udI A (nS (aO A)) := if_pos h1
    rw [eV, eN]
    have hn : nS (aO A) = (aO A 4).toNat := rfl
    have loop : ∀ (m i : Nat) (τ : St), i + m = nS (aO A) → MR τ (udI A i) → FC σ τ →
        V g mX12_undo (rmD 1 0 0) (QM g 0 0 (PM (aO A 4) (udI A (nS (aO A))) σ)) 23 [some (vq (some 77)), some (vi (i : Int))] [] 0 0 τ := by
      intro m
      induction m with
      | zero =>
        intro i τ hi hMt hF
        obtain ⟨hS, ⟨t78, t79⟩, -⟩ := id hMt
        have e4 : gG τ 78 4 = aO A 4 := by rw [t78]; exact undW_o (A := A) (by decide) i (Or.inl (by decide))
        refine V_iload_n dX12_undo_23 rfl ?_
        refine V_aload_n dX12_undo_24 rfl ?_
        refine V_getfr dX12_undo_25 sf_RX12_9 (by decide) (sh hS rfl) (rf hS rfl) ?_
        refine V_iconst dX12_undo_28 ?_
        refine V_iald dX12_undo_29 (sh hS rfl) (by omega) ?_
        refine V_val (show _ = aO A 4 from e4) ?_
        refine V_icmpge (tgt := 59) dX12_undo_30 (by decide) (by omega) (by omega) (fun br30 => ?_) (fun br30 => ?_)
        · refine V_aload_n dX12_undo_59 rfl ?_
          refine V_getfr dX12_undo_60 sf_RX12_9 (by decide) (sh hS rfl) (rf hS rfl) ?_
          refine V_iconst dX12_undo_63 ?_
          refine V_iald dX12_undo_64 (sh hS rfl) (by omega) ?_
          refine V_val (show _ = aO A 4 from e4) ?_
          refine V_iret dX12_undo_65 rfl (Nat.le_refl _) (Nat.le_refl _) ?_
          rw [show nS (aO A) = i by omega]
          exact PM_i rfl hMt hF
        · omega
      | succ m ih =>
        intro i τ hi hMt hF
        obtain ⟨hS, ⟨t78, t79⟩, ⟨t3, t4, t5, t6⟩, t81, ⟨t87, t88, t89, t90⟩, t91⟩ := hMt
        have e4 : gG τ 78 4 = aO A 4 := by rw [t78]; exact undW_o (A := A) (by decide) i (Or.inl (by decide))
        have u4 : gG τ 77 4 = aC A 1 + i := t4.trans udI_c1
        refine V_iload_n dX12_undo_23 rfl ?_
        refine V_aload_n dX12_undo_24 rfl ?_
        refine V_getfr dX12_undo_25 sf_RX12_9 (by decide) (sh hS rfl) (rf hS rfl) ?_
        refine V_iconst dX12_undo_28 ?_
        refine V_iald dX12_undo_29 (sh hS rfl) (by omega) ?_
        refine V_val (show _ = aO A 4 from e4) ?_
        refine V_icmpge (tgt := 59) dX12_undo_30 (by decide) (by omega) (by omega) (fun br30 => ?_) (fun br30 => ?_)
        · omega
        · refine V_aload_n dX12_undo_33 rfl ?_
          refine V_getfr dX12_undo_34 sf_RX12_9 (by decide) (sh hS rfl) (rf hS rfl) ?_
          refine V_bipush dX12_undo_37 (by decide) ?_
          refine V_iload_n dX12_undo_39 rfl ?_
          refine V_iadd dX12_undo_40 ?_
          refine V_val (show (43 : Int) + (i : Int) = ((43 + i : Nat) : Int) by omega) ?_
          refine V_aload_n dX12_undo_41 rfl ?_
          refine V_dup dX12_undo_42 rfl ?_
          refine V_getfi dX12_undo_43 sf_RX12_66 rfl (sh hS rfl) ?_
          refine V_val (show _ = aC A 1 + i from u4) ?_
          refine V_iconst dX12_undo_46 ?_
          refine V_iadd dX12_undo_47 ?_
          refine V_dup_x1 dX12_undo_48 rfl ?_
          refine V_puti dX12_undo_49 (sp_RX12_66 _) rfl (sh hS rfl) ?_
          refine V_iast dX12_undo_52 (sh hS rfl) (by omega) ?_
          refine V_iinc dX12_undo_53 rfl (by decide) rfl ?_
          refine V_goto (tgt := 23) dX12_undo_56 (by decide) ?_
          refine V_mask [true, true] ?_
          refine ih (i + 1) _ (by omega) ⟨hS, ⟨?_, t79⟩, ⟨t3.trans ((udI_co (by decide)).trans (udI_co (by decide)).symm), ?_, t5.trans ((udI_co (by decide)).trans (udI_co (by decide)).symm), t6.trans ((udI_co (by decide)).trans (udI_co (by decide)).symm)⟩, t81, ⟨t87, t88, t89, t90⟩, t91⟩ ((hF.onG _ _ (by decide)).onG _ _ (by decide))
          · show up1 (gG τ 78) (43 + i) (aC A 1 + i + 1) = up1 (undW A i) (43 + i) (aC A 1 + i + 1)
            rw [t78]; rfl
          · show aC A 1 + (i : Int) + 1 = aC (udI A (i + 1)) 1
            rw [udI_c1]; omega
    refine V_aload_n dX12_undo_0 rfl ?_
    refine V_getfi dX12_undo_1 sf_RX12_268 rfl (sh hS rfl) ?_
    refine V_val (show _ = aC A 0 from m3) ?_
    refine V_ifne (tgt := 10) dX12_undo_4 (by decide) (by omega) (fun br4 => ?_) (fun br4 => ?_)
    · refine V_aload_n dX12_undo_10 rfl ?_
      refine V_getfr dX12_undo_11 sf_RX12_15 (by decide) (sh hS rfl) (rf hS rfl) ?_
      refine V_aload_n dX12_undo_14 rfl ?_
      refine V_getfr dX12_undo_15 sf_RX12_9 (by decide) (sh hS rfl) (rf hS rfl) ?_
      refine V_callS dX12_undo_18 (c_pours g _ 79 78 (sh hS rfl) (sh hS rfl) (by decide)) ss_RX12_246 rfl ⟨⟨by decide, by decide⟩, ⟨by decide, by decide⟩⟩ (Nat.le_of_ble_eq_true rfl) (fun r18 s18 p18 => ?_)
      obtain ⟨rfl, hO⟩ := p18
      have hF : FC σ s18 := hO.fc (by decide)
      have o : ∀ c, c ≠ 78 → gG s18 c = gG σ c := hO.2.2.2.2.1
      have e78 := hO.2.2.2.2.2
      have e77 := o 77 (by decide)
      have hS := hF.std hS
      refine V_iconst dX12_undo_21 ?_
      refine V_istore_n dX12_undo_22 (by decide) rfl ?_
      refine V_mask [true, true] ?_
      refine loop (nS (aO A)) 0 _ (by omega) ⟨hS, ⟨by rw [e78, m78, m79]; rfl, by rw [o 79 (by decide)]; exact m79⟩, ⟨by rw [e77]; exact m3, by rw [e77]; exact m4.trans ((Int.add_zero _).symm.trans udI_c1.symm), by rw [e77]; exact m5, by rw [e77]; exact m6⟩, by rw [o 81 (by decide)]; exact m81, ⟨by rw [o 87 (by decide)]; exact m87, by rw [o 88 (by decide)]; exact m88, by rw [o 89 (by decide)]; exact m89, by rw [o 90 (by decide)]; exact m90⟩, by rw [hO.2.2.1]; exact m91⟩ hF
    · omega
  · refine V_aload_n dX12_undo_0 rfl ?_
    refine V_getfi dX12_undo_1 sf_RX12_268 rfl (sh hS rfl) ?_
    refine V_val (show _ = aC A 0 from m3) ?_
    refine V_ifne (tgt := 10) dX12_undo_4 (by decide) (by omega) (fun br4 => ?_) (fun br4 => ?_)
    · omega
    · refine V_bipush dX12_undo_7 (by decide) ?_
      refine V_iret dX12_undo_9 rfl (Nat.le_refl _) (Nat.le_refl _) ?_
      unfold undoV undoN
      rw [if_neg h1, if_neg h1]
      exact PM_i rfl hM0 (FC.rf _)