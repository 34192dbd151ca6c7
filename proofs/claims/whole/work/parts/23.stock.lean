/-! staves, hoops, boards; a stock at place a tells of a row w -/
theorem c_thing (g : Gl) (σ : St) (a : Nat) : Ct g mX9_init 1 0 0 [vq (some a)] σ (rV σ) := by
  refine Ct.of (by decide +kernel) (Nat.le_of_ble_eq_true rfl) ?_
  refine V_aload_n dX9_init_0 rfl ?_
  refine V_objInit dX9_init_1 so_RX9_1 (by decide) (Nat.le_of_ble_eq_true rfl) ?_
  refine V_vret dX9_init_4 rfl (Nat.le_refl _) (Nat.le_refl _) ?_
  exact ⟨rfl, rfl⟩
theorem c_counts (g : Gl) (σ : St) (b : Nat) (hb : gl σ b = some (.inl 6)) (hk : 0 ≤ gG σ b 0 ∧ gG σ b 0 ≤ 4) (hw : 1 ≤ gG σ b 1 ∧ gG σ b 1 ≤ 99) : Ct g mX6_counts 1 0 0 [vq (some b)] σ (rP (vi (cntK (gG σ b 0) (gG σ b 1))) σ) := by
  refine Ct.of (by decide +kernel) (Nat.le_of_ble_eq_true rfl) ?_
  refine V_iconst dX6_counts_0 ?_
  refine V_aload_n dX6_counts_1 rfl ?_
  refine V_getfi dX6_counts_2 sf_RX6_13 rfl hb ?_
  refine V_iconst dX6_counts_5 ?_
  refine V_isub dX6_counts_6 ?_
  refine V_max dX6_counts_7 sm_RX6_31 (by decide) (by decide) (Nat.le_of_ble_eq_true rfl) (by omega) (by omega) ?_
  refine V_istore_n dX6_counts_10 (by decide) rfl ?_
  refine V_aload_n dX6_counts_11 rfl ?_
  refine V_getfi dX6_counts_12 sf_RX6_7 rfl hb ?_
  refine V_tsw4 (td := 61) (t0 := 44) (t1 := 61) (t2 := 46) (t3 := 53) dX6_counts_15 (by omega) rfl (by decide) (by decide) (by decide) (by decide) (by decide) (fun br15 => ?_) (fun br15 => ?_) (fun br15 => ?_) (fun br15 => ?_) (fun br15 => ?_)
  · refine V_aload_n dX6_counts_61 rfl ?_
    refine V_getfi dX6_counts_62 sf_RX6_13 rfl hb ?_
    refine V_iret dX6_counts_65 rfl (Nat.le_refl _) (Nat.le_refl _) ?_
    exact rP_i (by unfold cntK; (repeat' split) <;> omega) rfl
  · refine V_iload_n dX6_counts_44 rfl ?_
    refine V_iret dX6_counts_45 rfl (Nat.le_refl _) (Nat.le_refl _) ?_
    exact rP_i (by unfold cntK; (repeat' split) <;> omega) rfl
  · refine V_aload_n dX6_counts_61 rfl ?_
    refine V_getfi dX6_counts_62 sf_RX6_13 rfl hb ?_
    refine V_iret dX6_counts_65 rfl (Nat.le_refl _) (Nat.le_refl _) ?_
    exact rP_i (by unfold cntK; (repeat' split) <;> omega) rfl
  · refine V_aload_n dX6_counts_46 rfl ?_
    refine V_getfi dX6_counts_47 sf_RX6_13 rfl hb ?_
    refine V_iconst dX6_counts_50 ?_
    refine V_iadd dX6_counts_51 ?_
    refine V_iret dX6_counts_52 rfl (Nat.le_refl _) (Nat.le_refl _) ?_
    exact rP_i (by unfold cntK; (repeat' split) <;> omega) rfl
  · refine V_iconst dX6_counts_53 ?_
    refine V_iload_n dX6_counts_54 rfl ?_
    refine V_iconst dX6_counts_55 ?_
    refine V_idiv dX6_counts_56 (by omega) ?_
    refine V_max dX6_counts_57 sm_RX6_31 (by decide) (by decide) (Nat.le_of_ble_eq_true rfl) (by omega) (by omega) ?_
    refine V_iret dX6_counts_60 rfl (Nat.le_refl _) (Nat.le_refl _) ?_
    exact rP_i (by unfold cntK; (repeat' split) <;> omega) rfl
theorem c_edge (g : Gl) (σ : St) (b : Nat) (hb : gl σ b = some (.inl 6)) (hk : 0 ≤ gG σ b 0 ∧ gG σ b 0 ≤ 4) : Ct g mX6_edge 1 0 0 [vq (some b)] σ (rP (vi (edgeK (gG σ b 0) (gG σ b 3))) σ) := by
  refine Ct.of (by decide +kernel) (Nat.le_of_ble_eq_true rfl) ?_
  refine V_aload_n dX6_edge_0 rfl ?_
  refine V_getfi dX6_edge_1 sf_RX6_7 rfl hb ?_
  refine V_tsw3 (td := 46) (t0 := 32) (t1 := 32) (t2 := 39) dX6_edge_4 (by omega) rfl (by decide) (by decide) (by decide) (by decide) (fun br4 => ?_) (fun br4 => ?_) (fun br4 => ?_) (fun br4 => ?_)
  · refine V_aload_n dX6_edge_46 rfl ?_
    refine V_getfi dX6_edge_47 sf_RX6_19 rfl hb ?_
    refine V_iret dX6_edge_50 rfl (Nat.le_refl _) (Nat.le_refl _) ?_
    exact rP_i (by unfold edgeK; (repeat' split) <;> omega) rfl
  · refine V_aload_n dX6_edge_32 rfl ?_
    refine V_getfi dX6_edge_33 sf_RX6_19 rfl hb ?_
    refine V_iconst dX6_edge_36 ?_
    refine V_iadd dX6_edge_37 ?_
    refine V_iret dX6_edge_38 rfl (Nat.le_refl _) (Nat.le_refl _) ?_
    exact rP_i (by unfold edgeK; (repeat' split) <;> omega) rfl
  · refine V_aload_n dX6_edge_32 rfl ?_
    refine V_getfi dX6_edge_33 sf_RX6_19 rfl hb ?_
    refine V_iconst dX6_edge_36 ?_
    refine V_iadd dX6_edge_37 ?_
    refine V_iret dX6_edge_38 rfl (Nat.le_refl _) (Nat.le_refl _) ?_
    exact rP_i (by unfold edgeK; (repeat' split) <;> omega) rfl
  · refine V_aload_n dX6_edge_39 rfl ?_
    refine V_getfi dX6_edge_40 sf_RX6_19 rfl hb ?_
    refine V_iconst dX6_edge_43 ?_
    refine V_isub dX6_edge_44 ?_
    refine V_iret dX6_edge_45 rfl (Nat.le_refl _) (Nat.le_refl _) ?_
    exact rP_i (by unfold edgeK; (repeat' split) <;> omega) rfl
theorem c_price (g : Gl) (σ : St) (b : Nat) (hb : gl σ b = some (.inl 6)) (hk : 0 ≤ gG σ b 0 ∧ gG σ b 0 ≤ 4) (hw : 1 ≤ gG σ b 1 ∧ gG σ b 1 ≤ 99) (ht : 1 ≤ gG σ b 2 ∧ gG σ b 2 ≤ 9) : Ct g mX6_price 1 0 0 [vq (some b)] σ (rP (vi (priceK (gG σ b 0) (gG σ b 1) (gG σ b 2))) σ) := by
  refine Ct.of (by decide +kernel) (Nat.le_of_ble_eq_true rfl) ?_
  have m := mul_bd (a := gG σ b 1) (b := gG σ b 2) (A := 99) (B := 9) (by omega) (by omega)
  refine V_aload_n dX6_price_0 rfl ?_
  refine V_getfi dX6_price_1 sf_RX6_13 rfl hb ?_
  refine V_aload_n dX6_price_4 rfl ?_
  refine V_getfi dX6_price_5 sf_RX6_16 rfl hb ?_
  refine V_imul dX6_price_8 ?_
  refine V_istore_n dX6_price_9 (by decide) rfl ?_
  refine V_aload_n dX6_price_10 rfl ?_
  refine V_getfi dX6_price_11 sf_RX6_7 rfl hb ?_
  refine V_tsw4 (td := 53) (t0 := 44) (t1 := 53) (t2 := 48) (t3 := 44) dX6_price_14 (by omega) rfl (by decide) (by decide) (by decide) (by decide) (by decide) (fun br14 => ?_) (fun br14 => ?_) (fun br14 => ?_) (fun br14 => ?_) (fun br14 => ?_)
  · refine V_iload_n dX6_price_53 rfl ?_
    refine V_iret dX6_price_54 rfl (Nat.le_refl _) (Nat.le_refl _) ?_
    exact rP_i (by unfold priceK; (repeat' split) <;> omega) rfl
  · refine V_iload_n dX6_price_44 rfl ?_
    refine V_iconst dX6_price_45 ?_
    refine V_idiv dX6_price_46 (by omega) ?_
    refine V_iret dX6_price_47 rfl (Nat.le_refl _) (Nat.le_refl _) ?_
    exact rP_i (by unfold priceK; (repeat' split) <;> omega) rfl
  · refine V_iload_n dX6_price_53 rfl ?_
    refine V_iret dX6_price_54 rfl (Nat.le_refl _) (Nat.le_refl _) ?_
    exact rP_i (by unfold priceK; (repeat' split) <;> omega) rfl
  · refine V_iload_n dX6_price_48 rfl ?_
    refine V_bipush dX6_price_49 (by decide) ?_
    refine V_iadd dX6_price_51 ?_
    refine V_iret dX6_price_52 rfl (Nat.le_refl _) (Nat.le_refl _) ?_
    exact rP_i (by unfold priceK; (repeat' split) <;> omega) rfl
  · refine V_iload_n dX6_price_44 rfl ?_
    refine V_iconst dX6_price_45 ?_
    refine V_idiv dX6_price_46 (by omega) ?_
    refine V_iret dX6_price_47 rfl (Nat.le_refl _) (Nat.le_refl _) ?_
    exact rP_i (by unfold priceK; (repeat' split) <;> omega) rfl
theorem c_sCanBe (g : Gl) (σ : St) (k w t b : Int) (h1 : inR k) (h2 : inR w) (h3 : inR t) (h4 : inR b) : Ct g mX6_canBe 1 0 0 [vi k, vi w, vi t, vi b] σ (rP (vi (bI (okS k w t b))) σ) := by
  refine Ct.of (by decide +kernel) (Nat.le_of_ble_eq_true rfl) ?_
  refine V_iload_n dX6_canBe_0 rfl ?_
  refine V_iconst dX6_canBe_1 ?_
  refine V_iconst dX6_canBe_2 ?_
  refine V_callS dX6_canBe_3 (c_isIn g _ _ _ _ (by omega) (by omega) (by omega)) ss_RX6_22 rfl ⟨⟨by decide, by decide⟩, ⟨by decide, by decide⟩⟩ (Nat.le_of_ble_eq_true rfl) (fun r3 s3 p3 => ?_)
  obtain ⟨rfl, rfl⟩ := p3
  refine V_ifeqB (tgt := 44) dX6_canBe_6 (by decide) (fun br6 => ?_) (fun br6 => ?_)
  · refine V_iconst dX6_canBe_44 ?_
    refine V_zret dX6_canBe_45 rfl (Nat.le_refl _) (Nat.le_refl _) (by first | omega | exact bI_01 _) ?_
    first | exact rP_t (by omega) | exact rP_f (by omega)
  · refine V_iload_n dX6_canBe_9 rfl ?_
    refine V_iconst dX6_canBe_10 ?_
    refine V_bipush dX6_canBe_11 (by decide) ?_
    refine V_callS dX6_canBe_13 (c_isIn g _ _ _ _ (by omega) (by omega) (by omega)) ss_RX6_22 rfl ⟨⟨by decide, by decide⟩, ⟨by decide, by decide⟩⟩ (Nat.le_of_ble_eq_true rfl) (fun r13 s13 p13 => ?_)
    obtain ⟨rfl, rfl⟩ := p13
    refine V_ifeqB (tgt := 44) dX6_canBe_16 (by decide) (fun br16 => ?_) (fun br16 => ?_)
    · refine V_iconst dX6_canBe_44 ?_
      refine V_zret dX6_canBe_45 rfl (Nat.le_refl _) (Nat.le_refl _) (by first | omega | exact bI_01 _) ?_
      first | exact rP_t (by omega) | exact rP_f (by omega)
    · refine V_iload_n dX6_canBe_19 rfl ?_
      refine V_iconst dX6_canBe_20 ?_
      refine V_bipush dX6_canBe_21 (by decide) ?_
      refine V_callS dX6_canBe_23 (c_isIn g _ _ _ _ (by omega) (by omega) (by omega)) ss_RX6_22 rfl ⟨⟨by decide, by decide⟩, ⟨by decide, by decide⟩⟩ (Nat.le_of_ble_eq_true rfl) (fun r23 s23 p23 => ?_)
      obtain ⟨rfl, rfl⟩ := p23
      refine V_ifeqB (tgt := 44) dX6_canBe_26 (by decide) (fun br26 => ?_) (fun br26 => ?_)
      · refine V_iconst dX6_canBe_44 ?_
        refine V_zret dX6_canBe_45 rfl (Nat.le_refl _) (Nat.le_refl _) (by first | omega | exact bI_01 _) ?_
        first | exact rP_t (by omega) | exact rP_f (by omega)
      · refine V_iload_n dX6_canBe_29 rfl ?_
        refine V_bipush dX6_canBe_30 (by decide) ?_
        refine V_bipush dX6_canBe_32 (by decide) ?_
        refine V_callS dX6_canBe_34 (c_isIn g _ _ _ _ (by omega) (by omega) (by omega)) ss_RX6_22 rfl ⟨⟨by decide, by decide⟩, ⟨by decide, by decide⟩⟩ (Nat.le_of_ble_eq_true rfl) (fun r34 s34 p34 => ?_)
        obtain ⟨rfl, rfl⟩ := p34
        refine V_ifeqB (tgt := 44) dX6_canBe_37 (by decide) (fun br37 => ?_) (fun br37 => ?_)
        · refine V_iconst dX6_canBe_44 ?_
          refine V_zret dX6_canBe_45 rfl (Nat.le_refl _) (Nat.le_refl _) (by first | omega | exact bI_01 _) ?_
          first | exact rP_t (by omega) | exact rP_f (by omega)
        · refine V_iconst dX6_canBe_40 ?_
          refine V_goto (tgt := 45) dX6_canBe_41 (by decide) ?_
          refine V_zret dX6_canBe_45 rfl (Nat.le_refl _) (Nat.le_refl _) (by first | omega | exact bI_01 _) ?_
          first | exact rP_t (by omega) | exact rP_f (by omega)
theorem c_hCanBe (g : Gl) (σ : St) (k s d : Int) (h1 : inR k) (h2 : inR s) (h3 : inR d) : Ct g mX3_canBe 1 0 0 [vi k, vi s, vi d] σ (rP (vi (bI (okH k s d))) σ) := by
  refine Ct.of (by decide +kernel) (Nat.le_of_ble_eq_true rfl) ?_
  refine V_iload_n dX3_canBe_0 rfl ?_
  refine V_iconst dX3_canBe_1 ?_
  refine V_iconst dX3_canBe_2 ?_
  refine V_callS dX3_canBe_3 (c_isIn g _ _ _ _ (by omega) (by omega) (by omega)) ss_RX3_21 rfl ⟨⟨by decide, by decide⟩, ⟨by decide, by decide⟩⟩ (Nat.le_of_ble_eq_true rfl) (fun r3 s3 p3 => ?_)
  obtain ⟨rfl, rfl⟩ := p3
  refine V_ifeqB (tgt := 33) dX3_canBe_6 (by decide) (fun br6 => ?_) (fun br6 => ?_)
  · refine V_iconst dX3_canBe_33 ?_
    refine V_zret dX3_canBe_34 rfl (Nat.le_refl _) (Nat.le_refl _) (by first | omega | exact bI_01 _) ?_
    first | exact rP_t (by omega) | exact rP_f (by omega)
  · refine V_iload_n dX3_canBe_9 rfl ?_
    refine V_iconst dX3_canBe_10 ?_
    refine V_sipush dX3_canBe_11 (by decide) ?_
    refine V_callS dX3_canBe_14 (c_isIn g _ _ _ _ (by omega) (by omega) (by omega)) ss_RX3_21 rfl ⟨⟨by decide, by decide⟩, ⟨by decide, by decide⟩⟩ (Nat.le_of_ble_eq_true rfl) (fun r14 s14 p14 => ?_)
    obtain ⟨rfl, rfl⟩ := p14
    refine V_ifeqB (tgt := 33) dX3_canBe_17 (by decide) (fun br17 => ?_) (fun br17 => ?_)
    · refine V_iconst dX3_canBe_33 ?_
      refine V_zret dX3_canBe_34 rfl (Nat.le_refl _) (Nat.le_refl _) (by first | omega | exact bI_01 _) ?_
      first | exact rP_t (by omega) | exact rP_f (by omega)
    · refine V_iload_n dX3_canBe_20 rfl ?_
      refine V_iconst dX3_canBe_21 ?_
      refine V_iconst dX3_canBe_22 ?_
      refine V_callS dX3_canBe_23 (c_isIn g _ _ _ _ (by omega) (by omega) (by omega)) ss_RX3_21 rfl ⟨⟨by decide, by decide⟩, ⟨by decide, by decide⟩⟩ (Nat.le_of_ble_eq_true rfl) (fun r23 s23 p23 => ?_)
      obtain ⟨rfl, rfl⟩ := p23
      refine V_ifeqB (tgt := 33) dX3_canBe_26 (by decide) (fun br26 => ?_) (fun br26 => ?_)
      · refine V_iconst dX3_canBe_33 ?_
        refine V_zret dX3_canBe_34 rfl (Nat.le_refl _) (Nat.le_refl _) (by first | omega | exact bI_01 _) ?_
        first | exact rP_t (by omega) | exact rP_f (by omega)
      · refine V_iconst dX3_canBe_29 ?_
        refine V_goto (tgt := 34) dX3_canBe_30 (by decide) ?_
        refine V_zret dX3_canBe_34 rfl (Nat.le_refl _) (Nat.le_refl _) (by first | omega | exact bI_01 _) ?_
        first | exact rP_t (by omega) | exact rP_f (by omega)
theorem c_bCanBe (g : Gl) (σ : St) (w : Int) (h1 : inR w) : Ct g mX0_canBe 1 0 0 [vi w] σ (rP (vi (bI (okB w))) σ) := by
  refine Ct.of (by decide +kernel) (Nat.le_of_ble_eq_true rfl) ?_
  refine V_iload_n dX0_canBe_0 rfl ?_
  refine V_iconst dX0_canBe_1 ?_
  refine V_bipush dX0_canBe_2 (by decide) ?_
  refine V_callS dX0_canBe_4 (c_isIn g _ _ _ _ (by omega) (by omega) (by omega)) ss_RX0_13 rfl ⟨⟨by decide, by decide⟩, ⟨by decide, by decide⟩⟩ (Nat.le_of_ble_eq_true rfl) (fun r4 s4 p4 => ?_)
  obtain ⟨rfl, rfl⟩ := p4
  refine V_zret dX0_canBe_7 rfl (Nat.le_refl _) (Nat.le_refl _) (by first | omega | exact bI_01 _) ?_
  exact ⟨rfl, rfl⟩
theorem c_sInit (g : Gl) (σ : St) (a : Nat) (k w t b : Int) (ha : gl σ a = some (.inl 6)) : Ct g mX6_init 2 0 0 [vq (some a), vi k, vi w, vi t, vi b] σ (rV (setG (setG (setG (setG σ a 0 k) a 1 w) a 2 t) a 3 b)) := by
  refine Ct.of (by decide +kernel) (Nat.le_of_ble_eq_true rfl) ?_
  refine V_aload_n dX6_init_0 rfl ?_
  refine V_callI dX6_init_1 (c_thing g _ _) si_RX6_1 rfl ⟨⟨by decide, by decide⟩, ⟨by decide, by decide⟩⟩ (Nat.le_of_ble_eq_true rfl) (fun r1 s1 p1 => ?_)
  obtain ⟨rfl, rfl⟩ := p1
  refine V_aload_n dX6_init_4 rfl ?_
  refine V_iload_n dX6_init_5 rfl ?_
  refine V_puti dX6_init_6 sp_RX6_7 rfl ha ?_
  refine V_aload_n dX6_init_9 rfl ?_
  refine V_iload_n dX6_init_10 rfl ?_
  refine V_puti dX6_init_11 (sp_RX6_13 _) rfl ha ?_
  refine V_aload_n dX6_init_14 rfl ?_
  refine V_iload_n dX6_init_15 rfl ?_
  refine V_puti dX6_init_16 sp_RX6_16 rfl ha ?_
  refine V_aload_n dX6_init_19 rfl ?_
  refine V_iload dX6_init_20 rfl ?_
  refine V_puti dX6_init_22 sp_RX6_19 rfl ha ?_
  refine V_vret dX6_init_25 rfl (Nat.le_refl _) (Nat.le_refl _) ?_
  exact ⟨rfl, rfl⟩
theorem c_hInit (g : Gl) (σ : St) (a : Nat) (k s d : Int) (ha : gl σ a = some (.inl 3)) : Ct g mX3_init 2 0 0 [vq (some a), vi k, vi s, vi d] σ (rV (setG (setG (setG σ a 0 k) a 1 s) a 2 d)) := by
  refine Ct.of (by decide +kernel) (Nat.le_of_ble_eq_true rfl) ?_
  refine V_aload_n dX3_init_0 rfl ?_
  refine V_callI dX3_init_1 (c_thing g _ _) si_RX3_3 rfl ⟨⟨by decide, by decide⟩, ⟨by decide, by decide⟩⟩ (Nat.le_of_ble_eq_true rfl) (fun r1 s1 p1 => ?_)
  obtain ⟨rfl, rfl⟩ := p1
  refine V_aload_n dX3_init_4 rfl ?_
  refine V_iload_n dX3_init_5 rfl ?_
  refine V_puti dX3_init_6 sp_RX3_9 rfl ha ?_
  refine V_aload_n dX3_init_9 rfl ?_
  refine V_iload_n dX3_init_10 rfl ?_
  refine V_puti dX3_init_11 sp_RX3_15 rfl ha ?_
  refine V_aload_n dX3_init_14 rfl ?_
  refine V_iload_n dX3_init_15 rfl ?_
  refine V_puti dX3_init_16 sp_RX3_18 rfl ha ?_
  refine V_vret dX3_init_19 rfl (Nat.le_refl _) (Nat.le_refl _) ?_
  exact ⟨rfl, rfl⟩
theorem c_bInit (g : Gl) (σ : St) (a : Nat) (w : Int) (ha : gl σ a = some (.inl 0)) : Ct g mX0_init 2 0 0 [vq (some a), vi w] σ (rV (setG σ a 0 w)) := by
  refine Ct.of (by decide +kernel) (Nat.le_of_ble_eq_true rfl) ?_
  refine V_aload_n dX0_init_0 rfl ?_
  refine V_callI dX0_init_1 (c_thing g _ _) si_RX0_1 rfl ⟨⟨by decide, by decide⟩, ⟨by decide, by decide⟩⟩ (Nat.le_of_ble_eq_true rfl) (fun r1 s1 p1 => ?_)
  obtain ⟨rfl, rfl⟩ := p1
  refine V_aload_n dX0_init_4 rfl ?_
  refine V_iload_n dX0_init_5 rfl ?_
  refine V_puti dX0_init_6 sp_RX0_7 rfl ha ?_
  refine V_vret dX0_init_9 rfl (Nat.le_refl _) (Nat.le_refl _) ?_
  exact ⟨rfl, rfl⟩
def pressK (k gr : Int) : Int := if k = 1 then 2 * gr else if k = 2 then gr / 2 else if k = 3 then 2 * gr + 3 else gr
theorem c_presses (g : Gl) (σ : St) (k gr : Int) (hk : 0 ≤ k ∧ k ≤ 3) (hg : 0 ≤ gr ∧ gr ≤ 600) : Ct g mX3_presses 0 0 0 [vi k, vi gr] σ (rP (vi (pressK k gr)) σ) := by
  refine Ct.of (by decide +kernel) (Nat.le_of_ble_eq_true rfl) ?_
  refine V_iload_n dX3_presses_0 rfl ?_
  refine V_tsw3 (td := 42) (t0 := 28) (t1 := 32) (t2 := 36) dX3_presses_1 (by omega) rfl (by decide) (by decide) (by decide) (by decide) (fun br1 => ?_) (fun br1 => ?_) (fun br1 => ?_) (fun br1 => ?_)
  · refine V_iload_n dX3_presses_42 rfl ?_
    refine V_iret dX3_presses_43 rfl (Nat.le_refl _) (Nat.le_refl _) ?_
    exact rP_i (by unfold pressK; (repeat' split) <;> omega) rfl
  · refine V_iconst dX3_presses_28 ?_
    refine V_iload_n dX3_presses_29 rfl ?_
    refine V_imul dX3_presses_30 ?_
    refine V_iret dX3_presses_31 rfl (Nat.le_refl _) (Nat.le_refl _) ?_
    exact rP_i (by unfold pressK; (repeat' split) <;> omega) rfl
  · refine V_iload_n dX3_presses_32 rfl ?_
    refine V_iconst dX3_presses_33 ?_
    refine V_idiv dX3_presses_34 (by omega) ?_
    refine V_iret dX3_presses_35 rfl (Nat.le_refl _) (Nat.le_refl _) ?_
    exact rP_i (by unfold pressK; (repeat' split) <;> omega) rfl
  · refine V_iconst dX3_presses_36 ?_
    refine V_iload_n dX3_presses_37 rfl ?_
    refine V_imul dX3_presses_38 ?_
    refine V_iconst dX3_presses_39 ?_
    refine V_iadd dX3_presses_40 ?_
    refine V_iret dX3_presses_41 rfl (Nat.le_refl _) (Nat.le_refl _) ?_
    exact rP_i (by unfold pressK; (repeat' split) <;> omega) rfl
/-- the one of a row of a stock (its field f, the row at b, the number at field q) -/
theorem c_staveAt (g : Gl) (σ : St) (a b : Nat) (i : Int) (h1 : gl σ a = some (.inl 7)) (h2 : gP σ a 0 = some b) (h3 : gl σ b = some (.inr (3, 9))) (hi : inR i) (hn : 0 ≤ gG σ a 4 ∧ gG σ a 4 ≤ 9) : Ct g mX7_staveAt 0 0 0 [vq (some a), vi i] σ (rP (vq (if 0 ≤ i ∧ i < gG σ a 4 then gP σ b i.toNat else none)) σ) := by
  refine Ct.of (by decide +kernel) (Nat.le_of_ble_eq_true rfl) ?_
  refine V_iload_n dX7_staveAt_0 rfl ?_
  refine V_iflt (tgt := 21) dX7_staveAt_1 (by decide) (by omega) (fun br1 => ?_) (fun br1 => ?_)
  · refine V_null dX7_staveAt_21 ?_
    refine V_aret dX7_staveAt_22 rfl (Nat.le_refl _) (Nat.le_refl _) ?_
    first | exact ⟨by rw [if_pos (by omega)], rfl⟩ | exact ⟨by rw [if_neg (by omega)], rfl⟩
  · refine V_iload_n dX7_staveAt_4 rfl ?_
    refine V_aload_n dX7_staveAt_5 rfl ?_
    refine V_getfi dX7_staveAt_6 sf_RX7_33 rfl h1 ?_
    refine V_icmpge (tgt := 21) dX7_staveAt_9 (by decide) (by omega) (by omega) (fun br9 => ?_) (fun br9 => ?_)
    · refine V_null dX7_staveAt_21 ?_
      refine V_aret dX7_staveAt_22 rfl (Nat.le_refl _) (Nat.le_refl _) ?_
      first | exact ⟨by rw [if_pos (by omega)], rfl⟩ | exact ⟨by rw [if_neg (by omega)], rfl⟩
    · refine V_aload_n dX7_staveAt_12 rfl ?_
      refine V_getfr dX7_staveAt_13 sf_RX7_11 (by decide) h1 h2 ?_
      refine V_iload_n dX7_staveAt_16 rfl ?_
      refine V_aald dX7_staveAt_17 h3 (by decide) (by omega) rfl ?_
      refine V_goto (tgt := 22) dX7_staveAt_18 (by decide) ?_
      refine V_aret dX7_staveAt_22 rfl (Nat.le_refl _) (Nat.le_refl _) ?_
      first | exact ⟨by rw [if_pos (by omega)], rfl⟩ | exact ⟨by rw [if_neg (by omega)], rfl⟩
theorem c_hoopAt (g : Gl) (σ : St) (a b : Nat) (i : Int) (h1 : gl σ a = some (.inl 7)) (h2 : gP σ a 1 = some b) (h3 : gl σ b = some (.inr (4, 6))) (hi : inR i) (hn : 0 ≤ gG σ a 5 ∧ gG σ a 5 ≤ 6) : Ct g mX7_hoopAt 0 0 0 [vq (some a), vi i] σ (rP (vq (if 0 ≤ i ∧ i < gG σ a 5 then gP σ b i.toNat else none)) σ) := by
  refine Ct.of (by decide +kernel) (Nat.le_of_ble_eq_true rfl) ?_
  refine V_iload_n dX7_hoopAt_0 rfl ?_
  refine V_iflt (tgt := 21) dX7_hoopAt_1 (by decide) (by omega) (fun br1 => ?_) (fun br1 => ?_)
  · refine V_null dX7_hoopAt_21 ?_
    refine V_aret dX7_hoopAt_22 rfl (Nat.le_refl _) (Nat.le_refl _) ?_
    first | exact ⟨by rw [if_pos (by omega)], rfl⟩ | exact ⟨by rw [if_neg (by omega)], rfl⟩
  · refine V_iload_n dX7_hoopAt_4 rfl ?_
    refine V_aload_n dX7_hoopAt_5 rfl ?_
    refine V_getfi dX7_hoopAt_6 sf_RX7_37 rfl h1 ?_
    refine V_icmpge (tgt := 21) dX7_hoopAt_9 (by decide) (by omega) (by omega) (fun br9 => ?_) (fun br9 => ?_)
    · refine V_null dX7_hoopAt_21 ?_
      refine V_aret dX7_hoopAt_22 rfl (Nat.le_refl _) (Nat.le_refl _) ?_
      first | exact ⟨by rw [if_pos (by omega)], rfl⟩ | exact ⟨by rw [if_neg (by omega)], rfl⟩
    · refine V_aload_n dX7_hoopAt_12 rfl ?_
      refine V_getfr dX7_hoopAt_13 sf_RX7_19 (by decide) h1 h2 ?_
      refine V_iload_n dX7_hoopAt_16 rfl ?_
      refine V_aald dX7_hoopAt_17 h3 (by decide) (by omega) rfl ?_
      refine V_goto (tgt := 22) dX7_hoopAt_18 (by decide) ?_
      refine V_aret dX7_hoopAt_22 rfl (Nat.le_refl _) (Nat.le_refl _) ?_
      first | exact ⟨by rw [if_pos (by omega)], rfl⟩ | exact ⟨by rw [if_neg (by omega)], rfl⟩
theorem c_boardAt (g : Gl) (σ : St) (a b : Nat) (i : Int) (h1 : gl σ a = some (.inl 7)) (h2 : gP σ a 2 = some b) (h3 : gl σ b = some (.inr (5, 7))) (hi : inR i) (hn : 0 ≤ gG σ a 6 ∧ gG σ a 6 ≤ 7) : Ct g mX7_boardAt 0 0 0 [vq (some a), vi i] σ (rP (vq (if 0 ≤ i ∧ i < gG σ a 6 then gP σ b i.toNat else none)) σ) := by
  refine Ct.of (by decide +kernel) (Nat.le_of_ble_eq_true rfl) ?_
  refine V_iload_n dX7_boardAt_0 rfl ?_
  refine V_iflt (tgt := 21) dX7_boardAt_1 (by decide) (by omega) (fun br1 => ?_) (fun br1 => ?_)
  · refine V_null dX7_boardAt_21 ?_
    refine V_aret dX7_boardAt_22 rfl (Nat.le_refl _) (Nat.le_refl _) ?_
    first | exact ⟨by rw [if_pos (by omega)], rfl⟩ | exact ⟨by rw [if_neg (by omega)], rfl⟩
  · refine V_iload_n dX7_boardAt_4 rfl ?_
    refine V_aload_n dX7_boardAt_5 rfl ?_
    refine V_getfi dX7_boardAt_6 sf_RX7_40 rfl h1 ?_
    refine V_icmpge (tgt := 21) dX7_boardAt_9 (by decide) (by omega) (by omega) (fun br9 => ?_) (fun br9 => ?_)
    · refine V_null dX7_boardAt_21 ?_
      refine V_aret dX7_boardAt_22 rfl (Nat.le_refl _) (Nat.le_refl _) ?_
      first | exact ⟨by rw [if_pos (by omega)], rfl⟩ | exact ⟨by rw [if_neg (by omega)], rfl⟩
    · refine V_aload_n dX7_boardAt_12 rfl ?_
      refine V_getfr dX7_boardAt_13 sf_RX7_25 (by decide) h1 h2 ?_
      refine V_iload_n dX7_boardAt_16 rfl ?_
      refine V_aald dX7_boardAt_17 h3 (by decide) (by omega) rfl ?_
      refine V_goto (tgt := 22) dX7_boardAt_18 (by decide) ?_
      refine V_aret dX7_boardAt_22 rfl (Nat.le_refl _) (Nat.le_refl _) ?_
      first | exact ⟨by rw [if_pos (by omega)], rfl⟩ | exact ⟨by rw [if_neg (by omega)], rfl⟩
def SRs (σ : St) (a : Nat) (w : Nat → Int) : Prop := ∀ i : Nat, (i : Int) < w 4 → ∃ b, gP σ (a + 1) i = some b ∧ 93 ≤ b ∧ gl σ b = some (.inl 6) ∧ gG σ b 0 = w (7 + i) ∧ gG σ b 1 = w (16 + i) ∧ gG σ b 2 = w (25 + i) ∧ gG σ b 3 = w (34 + i)
def SRh (σ : St) (a : Nat) (w : Nat → Int) : Prop := ∀ i : Nat, (i : Int) < w 5 → ∃ b, gP σ (a + 2) i = some b ∧ 93 ≤ b ∧ gl σ b = some (.inl 3) ∧ gG σ b 0 = w (52 + i) ∧ gG σ b 1 = w (58 + i) ∧ gG σ b 2 = w (64 + i)
def SRb (σ : St) (a : Nat) (w : Nat → Int) : Prop := ∀ i : Nat, (i : Int) < w 6 → ∃ b, gP σ (a + 3) i = some b ∧ 93 ≤ b ∧ gl σ b = some (.inl 0) ∧ gG σ b 0 = w (70 + i)
/-- the stock at a tells of w -/
def SR (σ : St) (a : Nat) (w : Nat → Int) : Prop := (gG σ (a + 4) 0 = w 0 ∧ gG σ (a + 4) 1 = w 1 ∧ gG σ (a + 4) 2 = w 2 ∧ gG σ (a + 4) 3 = w 3) ∧ (gG σ a 4 = w 4 ∧ gG σ a 5 = w 5 ∧ gG σ a 6 = w 6) ∧ SRs σ a w ∧ SRh σ a w ∧ SRb σ a w
/-- what a method of the class begins with -/
def XS (σ : St) (w : Nat → Int) : Prop := Std σ ∧ SR σ 9 w ∧ WF w
theorem SR.onA {σ : St} {a : Nat} {w : Nat → Int} (h : SR σ a w) {c : Nat} (f : Nat → Int) (hc : c < 93) (h1 : c ≠ a) (h2 : c ≠ a + 4) : SR (setA σ c f) a w := by
  have e : ∀ b, b ≠ c → gG (setA σ c f) b = gG σ b := fun b hb => by rw [gG_setA, if_neg hb]
  obtain ⟨x1, x2, x3, x4, x5⟩ := h
  refine ⟨by rw [e _ (Ne.symm h2)]; exact x1, by rw [e _ (Ne.symm h1)]; exact x2, fun i hi => ?_, fun i hi => ?_, fun i hi => ?_⟩
  · obtain ⟨b, y1, y2, y3, y4⟩ := x3 i hi
    exact ⟨b, y1, y2, y3, by rw [e b (by omega)]; exact y4⟩
  · obtain ⟨b, y1, y2, y3, y4⟩ := x4 i hi
    exact ⟨b, y1, y2, y3, by rw [e b (by omega)]; exact y4⟩
  · obtain ⟨b, y1, y2, y3, y4⟩ := x5 i hi
    exact ⟨b, y1, y2, y3, by rw [e b (by omega)]; exact y4⟩
theorem XS.onA {σ : St} {w : Nat → Int} (h : XS σ w) {c : Nat} (f : Nat → Int) (hc : c < 93) (h1 : c ≠ 9) (h2 : c ≠ 13) : XS (setA σ c f) w := ⟨h.1, h.2.1.onA f hc h1 h2, h.2.2⟩
theorem XS.onG {σ : St} {w : Nat → Int} (h : XS σ w) {c : Nat} (k : Nat) (v : Int) (hc : c < 93) (h1 : c ≠ 9) (h2 : c ≠ 13) : XS (setG σ c k v) w := h.onA _ hc h1 h2
theorem XS.n4 {σ : St} {w : Nat → Int} (h : XS σ w) : gG σ 9 4 = w 4 ∧ 0 ≤ w 4 ∧ w 4 ≤ 9 := ⟨h.2.1.2.1.1, h.2.2.2.2.2.2.1⟩
theorem XS.n5 {σ : St} {w : Nat → Int} (h : XS σ w) : gG σ 9 5 = w 5 ∧ 0 ≤ w 5 ∧ w 5 ≤ 6 := ⟨h.2.1.2.1.2.1, h.2.2.2.2.2.2.2.1⟩
theorem XS.n6 {σ : St} {w : Nat → Int} (h : XS σ w) : gG σ 9 6 = w 6 ∧ 0 ≤ w 6 ∧ w 6 ≤ 7 := ⟨h.2.1.2.1.2.2, h.2.2.2.2.2.2.2.2.1⟩
theorem XS.r0 {σ : St} {w : Nat → Int} (h : XS σ w) : gG σ 13 0 = w 0 ∧ 10 ≤ w 0 ∧ w 0 ≤ 500 := ⟨h.2.1.1.1, h.2.2.1⟩
theorem XS.r1 {σ : St} {w : Nat → Int} (h : XS σ w) : gG σ 13 1 = w 1 ∧ 0 ≤ w 1 ∧ w 1 ≤ 50 := ⟨h.2.1.1.2.1, h.2.2.2.1⟩
theorem XS.r2 {σ : St} {w : Nat → Int} (h : XS σ w) : gG σ 13 2 = w 2 ∧ 0 ≤ w 2 ∧ w 2 ≤ 20 := ⟨h.2.1.1.2.2.1, h.2.2.2.2.1⟩
theorem XS.r3 {σ : St} {w : Nat → Int} (h : XS σ w) : gG σ 13 3 = w 3 ∧ -20 ≤ w 3 ∧ w 3 ≤ 20 := ⟨h.2.1.1.2.2.2, h.2.2.2.2.2.1⟩
theorem XS.s {σ : St} {w : Nat → Int} (h : XS σ w) {i : Int} (h0 : 0 ≤ i) (h1 : i < w 4) : ∃ b, gP σ 10 i.toNat = some b ∧ 93 ≤ b ∧ gl σ b = some (.inl 6) ∧ (gG σ b 0 = w (7 + i.toNat) ∧ gG σ b 1 = w (16 + i.toNat) ∧ gG σ b 2 = w (25 + i.toNat) ∧ gG σ b 3 = w (34 + i.toNat)) ∧ okS (w (7 + i.toNat)) (w (16 + i.toNat)) (w (25 + i.toNat)) (w (34 + i.toNat)) := by
  obtain ⟨b, y1, y2, y3, y4⟩ := h.2.1.2.2.1 i.toNat (by omega)
  exact ⟨b, y1, y2, y3, y4, h.2.2.s (by omega)⟩
theorem XS.h {σ : St} {w : Nat → Int} (h : XS σ w) {i : Int} (h0 : 0 ≤ i) (h1 : i < w 5) : ∃ b, gP σ 11 i.toNat = some b ∧ 93 ≤ b ∧ gl σ b = some (.inl 3) ∧ (gG σ b 0 = w (52 + i.toNat) ∧ gG σ b 1 = w (58 + i.toNat) ∧ gG σ b 2 = w (64 + i.toNat)) ∧ okH (w (52 + i.toNat)) (w (58 + i.toNat)) (w (64 + i.toNat)) := by
  obtain ⟨b, y1, y2, y3, y4⟩ := h.2.1.2.2.2.1 i.toNat (by omega)
  exact ⟨b, y1, y2, y3, y4, h.2.2.h (by omega)⟩
theorem XS.b {σ : St} {w : Nat → Int} (h : XS σ w) {i : Int} (h0 : 0 ≤ i) (h1 : i < w 6) : ∃ b, gP σ 12 i.toNat = some b ∧ 93 ≤ b ∧ gl σ b = some (.inl 0) ∧ gG σ b 0 = w (70 + i.toNat) ∧ okB (w (70 + i.toNat)) := by
  obtain ⟨b, y1, y2, y3, y4⟩ := h.2.1.2.2.2.2 i.toNat (by omega)
  exact ⟨b, y1, y2, y3, y4, h.2.2.b (by omega)⟩
/-- the stave with a number that is there, in the yard's own stock -/
theorem c_sAt {g : Gl} {σ : St} {w : Nat → Int} (h : XS σ w) {i : Int} (h0 : 0 ≤ i) (h1 : i < w 4) {b : Nat} (hb : gP σ 10 i.toNat = some b) : Ct g mX7_staveAt 0 0 0 [vq (some 9), vi i] σ (rP (vq (some b)) σ) := by
  have q := h.n4
  have := c_staveAt g σ 9 10 i (sh h.1 rfl) (rf h.1 rfl) (sh h.1 rfl) (by omega) (by omega)
  rwa [if_pos (by omega), hb] at this
theorem c_sNo {g : Gl} {σ : St} {w : Nat → Int} (h : XS σ w) {i : Int} (hi : inR i) (h1 : ¬ (0 ≤ i ∧ i < w 4)) : Ct g mX7_staveAt 0 0 0 [vq (some 9), vi i] σ (rP (vq none) σ) := by
  have q := h.n4
  have := c_staveAt g σ 9 10 i (sh h.1 rfl) (rf h.1 rfl) (sh h.1 rfl) hi (by omega)
  rwa [if_neg (by omega)] at this
theorem c_hAt {g : Gl} {σ : St} {w : Nat → Int} (h : XS σ w) {i : Int} (h0 : 0 ≤ i) (h1 : i < w 5) {b : Nat} (hb : gP σ 11 i.toNat = some b) : Ct g mX7_hoopAt 0 0 0 [vq (some 9), vi i] σ (rP (vq (some b)) σ) := by
  have q := h.n5
  have := c_hoopAt g σ 9 11 i (sh h.1 rfl) (rf h.1 rfl) (sh h.1 rfl) (by omega) (by omega)
  rwa [if_pos (by omega), hb] at this
theorem c_hNo {g : Gl} {σ : St} {w : Nat → Int} (h : XS σ w) {i : Int} (hi : inR i) (h1 : ¬ (0 ≤ i ∧ i < w 5)) : Ct g mX7_hoopAt 0 0 0 [vq (some 9), vi i] σ (rP (vq none) σ) := by
  have q := h.n5
  have := c_hoopAt g σ 9 11 i (sh h.1 rfl) (rf h.1 rfl) (sh h.1 rfl) hi (by omega)
  rwa [if_neg (by omega)] at this
theorem c_bAt {g : Gl} {σ : St} {w : Nat → Int} (h : XS σ w) {i : Int} (h0 : 0 ≤ i) (h1 : i < w 6) {b : Nat} (hb : gP σ 12 i.toNat = some b) : Ct g mX7_boardAt 0 0 0 [vq (some 9), vi i] σ (rP (vq (some b)) σ) := by
  have q := h.n6
  have := c_boardAt g σ 9 12 i (sh h.1 rfl) (rf h.1 rfl) (sh h.1 rfl) (by omega) (by omega)
  rwa [if_pos (by omega), hb] at this
theorem c_bNo {g : Gl} {σ : St} {w : Nat → Int} (h : XS σ w) {i : Int} (hi : inR i) (h1 : ¬ (0 ≤ i ∧ i < w 6)) : Ct g mX7_boardAt 0 0 0 [vq (some 9), vi i] σ (rP (vq none) σ) := by
  have q := h.n6
  have := c_boardAt g σ 9 12 i (sh h.1 rfl) (rf h.1 rfl) (sh h.1 rfl) hi (by omega)
  rwa [if_neg (by omega)] at this
theorem c_canRule (g : Gl) (σ : St) (what v : Int) (h1 : inR what) (h2 : inR v) : Ct g mX11_canRule 1 0 0 [vi what, vi v] σ (rP (vi (bI (okR what v))) σ) := by
  refine Ct.of (by decide +kernel) (Nat.le_of_ble_eq_true rfl) ?_
  refine V_iload_n dX11_canRule_0 rfl ?_
  refine V_iconst dX11_canRule_1 ?_
  refine V_iconst dX11_canRule_2 ?_
  refine V_callS dX11_canRule_3 (c_isIn g _ _ _ _ (by omega) (by omega) (by omega)) ss_RX11_107 rfl ⟨⟨by decide, by decide⟩, ⟨by decide, by decide⟩⟩ (Nat.le_of_ble_eq_true rfl) (fun r3 s3 p3 => ?_)
  obtain ⟨rfl, rfl⟩ := p3
  refine V_ifeqB (tgt := 30) dX11_canRule_6 (by decide) (fun br6 => ?_) (fun br6 => ?_)
  · refine V_iconst dX11_canRule_30 ?_
    refine V_zret dX11_canRule_31 rfl (Nat.le_refl _) (Nat.le_refl _) (by first | omega | exact bI_01 _) ?_
    first | exact rP_t (by omega) | exact rP_f (by omega)
  · have hq : (what = 0 ∧ roC g 0 what.toNat = 10 ∧ roC g 1 what.toNat = 500) ∨ (what = 1 ∧ roC g 0 what.toNat = 0 ∧ roC g 1 what.toNat = 50) ∨ (what = 2 ∧ roC g 0 what.toNat = 0 ∧ roC g 1 what.toNat = 20) ∨ (what = 3 ∧ roC g 0 what.toNat = -20 ∧ roC g 1 what.toNat = 20) := by
      have : what = 0 ∨ what = 1 ∨ what = 2 ∨ what = 3 := by omega
      rcases this with rfl | rfl | rfl | rfl
      · exact Or.inl ⟨rfl, rfl, rfl⟩
      · exact Or.inr (Or.inl ⟨rfl, rfl, rfl⟩)
      · exact Or.inr (Or.inr (Or.inl ⟨rfl, rfl, rfl⟩))
      · exact Or.inr (Or.inr (Or.inr ⟨rfl, rfl, rfl⟩))
    refine V_iload_n dX11_canRule_9 rfl ?_
    refine V_gets (a := 0) dX11_canRule_10 (by decide) sg_RX11_373 ?_
    refine V_iload_n dX11_canRule_13 rfl ?_
    refine V_rold dX11_canRule_14 (by decide) (show 0 ≤ what ∧ what < (4 : Nat) by omega) ?_
    refine V_gets (a := 1) dX11_canRule_15 (by decide) sg_RX11_376 ?_
    refine V_iload_n dX11_canRule_18 rfl ?_
    refine V_rold dX11_canRule_19 (by decide) (show 0 ≤ what ∧ what < (4 : Nat) by omega) ?_
    refine V_callS dX11_canRule_20 (c_isIn g _ _ _ _ (by omega) (by omega) (by omega)) ss_RX11_107 rfl ⟨⟨by decide, by decide⟩, ⟨by decide, by decide⟩⟩ (Nat.le_of_ble_eq_true rfl) (fun r20 s20 p20 => ?_)
    obtain ⟨rfl, rfl⟩ := p20
    refine V_ifeqB (tgt := 30) dX11_canRule_23 (by decide) (fun br23 => ?_) (fun br23 => ?_)
    · refine V_iconst dX11_canRule_30 ?_
      refine V_zret dX11_canRule_31 rfl (Nat.le_refl _) (Nat.le_refl _) (by first | omega | exact bI_01 _) ?_
      first | exact rP_t (by omega) | exact rP_f (by omega)
    · refine V_iconst dX11_canRule_26 ?_
      refine V_goto (tgt := 31) dX11_canRule_27 (by decide) ?_
      refine V_zret dX11_canRule_31 rfl (Nat.le_refl _) (Nat.le_refl _) (by first | omega | exact bI_01 _) ?_
      first | exact rP_t (by omega) | exact rP_f (by omega)