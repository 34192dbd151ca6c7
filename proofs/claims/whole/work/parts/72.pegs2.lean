theorem c_toldS (g : Gl) (σ : St) (b : Nat) : Ct g mX6_toldAs 0 0 0 [vq (some b)] σ (rP (vi 1) σ) := by
  refine Ct.of (by decide +kernel) (Nat.le_of_ble_eq_true rfl) ?_
  refine V_iconst dX6_toldAs_0 ?_
  refine V_iret dX6_toldAs_1 rfl (Nat.le_refl _) (Nat.le_refl _) ?_
  exact ⟨rfl, rfl⟩
theorem c_toldH (g : Gl) (σ : St) (b : Nat) : Ct g mX3_toldAs 0 0 0 [vq (some b)] σ (rP (vi 2) σ) := by
  refine Ct.of (by decide +kernel) (Nat.le_of_ble_eq_true rfl) ?_
  refine V_iconst dX3_toldAs_0 ?_
  refine V_iret dX3_toldAs_1 rfl (Nat.le_refl _) (Nat.le_refl _) ?_
  exact ⟨rfl, rfl⟩
theorem c_toldB (g : Gl) (σ : St) (b : Nat) : Ct g mX0_toldAs 0 0 0 [vq (some b)] σ (rP (vi 3) σ) := by
  refine Ct.of (by decide +kernel) (Nat.le_of_ble_eq_true rfl) ?_
  refine V_iconst dX0_toldAs_0 ?_
  refine V_iret dX0_toldAs_1 rfl (Nat.le_refl _) (Nat.le_refl _) ?_
  exact ⟨rfl, rfl⟩
theorem c_toldT (g : Gl) (σ : St) (b : Nat) (hb : gl σ b = some (.inl 9)) (v : Int) (hv : gG σ b 0 = v - 4) (h45 : v = 4 ∨ v = 5) : Ct g mX10_toldAs 0 0 0 [vq (some b)] σ (rP (vi v) σ) := by
  refine Ct.of (by decide +kernel) (Nat.le_of_ble_eq_true rfl) ?_
  refine V_aload_n dX10_toldAs_0 rfl ?_
  refine V_getfi dX10_toldAs_1 sf_RX10_9 rfl hb ?_
  refine V_val (show _ = v - 4 from hv) ?_
  refine V_ifne (tgt := 11) dX10_toldAs_4 (by decide) (by omega) (fun br4 => ?_) (fun br4 => ?_)
  · refine V_iconst dX10_toldAs_11 ?_
    refine V_iret dX10_toldAs_12 rfl (Nat.le_refl _) (Nat.le_refl _) ?_
    exact rP_i (by omega) rfl
  · refine V_iconst dX10_toldAs_7 ?_
    refine V_goto (tgt := 12) dX10_toldAs_8 (by decide) ?_
    refine V_iret dX10_toldAs_12 rfl (Nat.le_refl _) (Nat.le_refl _) ?_
    exact rP_i (by omega) rfl
def heldA (A : Ab) (peg : Int) : Int := if 0 ≤ peg ∧ peg ≤ 5 then aP A peg.toNat else -1
theorem c_held (g : Gl) (σ : St) (A : Ab) (hC : CL σ A) (peg : Int) (h1 : inR peg) : Ct g mX11_held 2 0 0 [vq (some 8), vi peg] σ (rP (vi (heldA A peg)) σ) := by
  refine Ct.of (by decide +kernel) (Nat.le_of_ble_eq_true rfl) ?_
  have hS := hC.1
  by_cases hq : 0 ≤ peg ∧ peg ≤ 5
  · have hr : heldA A peg = aP A peg.toNat := if_pos hq
    rw [hr]
    have hP := hC.2.2.2.2.2.2.2.2.1 peg.toNat (by omega)
    rcases hP with ⟨x, y⟩ | ⟨x, b, y1, y2, y3, y4, y5, y6⟩ | ⟨x, b, y1, y2, y3, y4, y5⟩ | ⟨x, b, y1, y2, y3, y4⟩ | ⟨x, b, c, n, y1, y2, y3, y4, y5, y6, y7, y8, y9, y10⟩
    · refine V_iload_n dX11_held_0 rfl ?_
      refine V_callS dX11_held_1 (c_isPeg g _ _ (by omega)) ss_RX11_299 rfl ⟨⟨by decide, by decide⟩, ⟨by decide, by decide⟩⟩ (Nat.le_of_ble_eq_true rfl) (fun r1 s1 p1 => ?_)
      obtain ⟨rfl, rfl⟩ := p1
      refine V_ifneB (tgt := 9) dX11_held_4 (by decide) (fun br4 => ?_) (fun br4 => ?_)
      · refine V_aload_n dX11_held_9 rfl ?_
        refine V_getfr dX11_held_10 sf_RX11_27 (by decide) (sh hS rfl) (rf hS rfl) ?_
        refine V_iload_n dX11_held_13 rfl ?_
        refine V_aald dX11_held_14 (sh hS rfl) (by decide) (by omega) y ?_
        refine V_astore_n dX11_held_15 (by decide) rfl ?_
        refine V_aload_n dX11_held_16 rfl ?_
        refine V_ifnonnull (tgt := 24) dX11_held_17 (by decide) (fun a17 br17 => ?_) (fun br17 => ?_)
        · cases br17
        · refine V_iconst dX11_held_20 ?_
          refine V_goto (tgt := 28) dX11_held_21 (by decide) ?_
          refine V_iret dX11_held_28 rfl (Nat.le_refl _) (Nat.le_refl _) ?_
          exact rP_i x.symm rfl
      · exact absurd hq br4
    · refine V_iload_n dX11_held_0 rfl ?_
      refine V_callS dX11_held_1 (c_isPeg g _ _ (by omega)) ss_RX11_299 rfl ⟨⟨by decide, by decide⟩, ⟨by decide, by decide⟩⟩ (Nat.le_of_ble_eq_true rfl) (fun r1 s1 p1 => ?_)
      obtain ⟨rfl, rfl⟩ := p1
      refine V_ifneB (tgt := 9) dX11_held_4 (by decide) (fun br4 => ?_) (fun br4 => ?_)
      · refine V_aload_n dX11_held_9 rfl ?_
        refine V_getfr dX11_held_10 sf_RX11_27 (by decide) (sh hS rfl) (rf hS rfl) ?_
        refine V_iload_n dX11_held_13 rfl ?_
        refine V_aald dX11_held_14 (sh hS rfl) (by decide) (by omega) y1 ?_
        refine V_astore_n dX11_held_15 (by decide) rfl ?_
        refine V_aload_n dX11_held_16 rfl ?_
        refine V_ifnonnull (tgt := 24) dX11_held_17 (by decide) (fun a17 br17 => ?_) (fun br17 => ?_)
        · refine V_aload_n dX11_held_24 rfl ?_
          refine V_callU dX11_held_25 (c_toldS g σ b) ⟨cs_X6_toldAs, sw_ins6, sw_sel6, _, rfl, rfl⟩ sw_311 y3 ⟨⟨by decide, by decide⟩, ⟨by decide, by decide⟩⟩ (Nat.le_of_ble_eq_true rfl) (fun r25 s25 p25 => ?_)
          obtain ⟨rfl, rfl⟩ := p25
          refine V_iret dX11_held_28 rfl (Nat.le_refl _) (Nat.le_refl _) ?_
          exact rP_i x.symm rfl
        · cases br17
      · exact absurd hq br4
    · refine V_iload_n dX11_held_0 rfl ?_
      refine V_callS dX11_held_1 (c_isPeg g _ _ (by omega)) ss_RX11_299 rfl ⟨⟨by decide, by decide⟩, ⟨by decide, by decide⟩⟩ (Nat.le_of_ble_eq_true rfl) (fun r1 s1 p1 => ?_)
      obtain ⟨rfl, rfl⟩ := p1
      refine V_ifneB (tgt := 9) dX11_held_4 (by decide) (fun br4 => ?_) (fun br4 => ?_)
      · refine V_aload_n dX11_held_9 rfl ?_
        refine V_getfr dX11_held_10 sf_RX11_27 (by decide) (sh hS rfl) (rf hS rfl) ?_
        refine V_iload_n dX11_held_13 rfl ?_
        refine V_aald dX11_held_14 (sh hS rfl) (by decide) (by omega) y1 ?_
        refine V_astore_n dX11_held_15 (by decide) rfl ?_
        refine V_aload_n dX11_held_16 rfl ?_
        refine V_ifnonnull (tgt := 24) dX11_held_17 (by decide) (fun a17 br17 => ?_) (fun br17 => ?_)
        · refine V_aload_n dX11_held_24 rfl ?_
          refine V_callU dX11_held_25 (c_toldH g σ b) ⟨cs_X3_toldAs, sw_ins3, sw_sel3, _, rfl, rfl⟩ sw_311 y3 ⟨⟨by decide, by decide⟩, ⟨by decide, by decide⟩⟩ (Nat.le_of_ble_eq_true rfl) (fun r25 s25 p25 => ?_)
          obtain ⟨rfl, rfl⟩ := p25
          refine V_iret dX11_held_28 rfl (Nat.le_refl _) (Nat.le_refl _) ?_
          exact rP_i x.symm rfl
        · cases br17
      · exact absurd hq br4
    · refine V_iload_n dX11_held_0 rfl ?_
      refine V_callS dX11_held_1 (c_isPeg g _ _ (by omega)) ss_RX11_299 rfl ⟨⟨by decide, by decide⟩, ⟨by decide, by decide⟩⟩ (Nat.le_of_ble_eq_true rfl) (fun r1 s1 p1 => ?_)
      obtain ⟨rfl, rfl⟩ := p1
      refine V_ifneB (tgt := 9) dX11_held_4 (by decide) (fun br4 => ?_) (fun br4 => ?_)
      · refine V_aload_n dX11_held_9 rfl ?_
        refine V_getfr dX11_held_10 sf_RX11_27 (by decide) (sh hS rfl) (rf hS rfl) ?_
        refine V_iload_n dX11_held_13 rfl ?_
        refine V_aald dX11_held_14 (sh hS rfl) (by decide) (by omega) y1 ?_
        refine V_astore_n dX11_held_15 (by decide) rfl ?_
        refine V_aload_n dX11_held_16 rfl ?_
        refine V_ifnonnull (tgt := 24) dX11_held_17 (by decide) (fun a17 br17 => ?_) (fun br17 => ?_)
        · refine V_aload_n dX11_held_24 rfl ?_
          refine V_callU dX11_held_25 (c_toldB g σ b) ⟨cs_X0_toldAs, sw_ins0, sw_sel0, _, rfl, rfl⟩ sw_311 y3 ⟨⟨by decide, by decide⟩, ⟨by decide, by decide⟩⟩ (Nat.le_of_ble_eq_true rfl) (fun r25 s25 p25 => ?_)
          obtain ⟨rfl, rfl⟩ := p25
          refine V_iret dX11_held_28 rfl (Nat.le_refl _) (Nat.le_refl _) ?_
          exact rP_i x.symm rfl
        · cases br17
      · exact absurd hq br4
    · refine V_iload_n dX11_held_0 rfl ?_
      refine V_callS dX11_held_1 (c_isPeg g _ _ (by omega)) ss_RX11_299 rfl ⟨⟨by decide, by decide⟩, ⟨by decide, by decide⟩⟩ (Nat.le_of_ble_eq_true rfl) (fun r1 s1 p1 => ?_)
      obtain ⟨rfl, rfl⟩ := p1
      refine V_ifneB (tgt := 9) dX11_held_4 (by decide) (fun br4 => ?_) (fun br4 => ?_)
      · refine V_aload_n dX11_held_9 rfl ?_
        refine V_getfr dX11_held_10 sf_RX11_27 (by decide) (sh hS rfl) (rf hS rfl) ?_
        refine V_iload_n dX11_held_13 rfl ?_
        refine V_aald dX11_held_14 (sh hS rfl) (by decide) (by omega) y1 ?_
        refine V_astore_n dX11_held_15 (by decide) rfl ?_
        refine V_aload_n dX11_held_16 rfl ?_
        refine V_ifnonnull (tgt := 24) dX11_held_17 (by decide) (fun a17 br17 => ?_) (fun br17 => ?_)
        · refine V_aload_n dX11_held_24 rfl ?_
          refine V_callU dX11_held_25 (c_toldT g σ b y3 (aP A peg.toNat) y4 x) ⟨cs_X10_toldAs, sw_ins10, sw_sel10, _, rfl, rfl⟩ sw_311 y3 ⟨⟨by decide, by decide⟩, ⟨by decide, by decide⟩⟩ (Nat.le_of_ble_eq_true rfl) (fun r25 s25 p25 => ?_)
          obtain ⟨rfl, rfl⟩ := p25
          refine V_iret dX11_held_28 rfl (Nat.le_refl _) (Nat.le_refl _) ?_
          exact rP_i rfl rfl
        · cases br17
      · exact absurd hq br4
  · refine V_iload_n dX11_held_0 rfl ?_
    refine V_callS dX11_held_1 (c_isPeg g _ _ (by omega)) ss_RX11_299 rfl ⟨⟨by decide, by decide⟩, ⟨by decide, by decide⟩⟩ (Nat.le_of_ble_eq_true rfl) (fun r1 s1 p1 => ?_)
    obtain ⟨rfl, rfl⟩ := p1
    refine V_ifneB (tgt := 9) dX11_held_4 (by decide) (fun br4 => ?_) (fun br4 => ?_)
    · exact absurd br4 hq
    · refine V_iconst dX11_held_7 ?_
      refine V_iret dX11_held_8 rfl (Nat.le_refl _) (Nat.le_refl _) ?_
      exact rP_i (if_neg hq).symm rfl
theorem PG.tray {σ : St} {A : Ab} {p : Nat} (h : PG σ A p) (h4 : 4 ≤ aP A p) : (aP A p = 4 ∨ aP A p = 5) ∧ ∃ b c n, gP σ 19 p = some b ∧ 93 ≤ b ∧ gl σ b = some (.inl 9) ∧ gG σ b 0 = aP A p - 4 ∧ gP σ b 1 = some c ∧ 93 ≤ c ∧ gl σ c = some (.inr (1, n)) ∧ (n : Int) = aZ A p ∧ n ≤ 30 ∧ ∀ i, i < n → gL σ c i = aX A (30 * p + i) := by
  rcases h with ⟨x, y⟩ | ⟨x, y⟩ | ⟨x, y⟩ | ⟨x, y⟩ | y
  · omega
  · omega
  · omega
  · omega
  · exact y
theorem c_trayAt (g : Gl) (σ : St) (hS : Std σ) (peg : Int) (hq : 0 ≤ peg ∧ peg ≤ 5) (b : Nat) (h1 : gP σ 19 peg.toNat = some b) (h2 : gl σ b = some (.inl 9)) : Ct g mX11_trayOn 2 0 0 [vq (some 8), vi peg] σ (rP (vq (some b)) σ) := by
  refine Ct.of (by decide +kernel) (Nat.le_of_ble_eq_true rfl) ?_
  refine V_iload_n dX11_trayOn_0 rfl ?_
  refine V_callS dX11_trayOn_1 (c_isPeg g _ _ (by omega)) ss_RX11_299 rfl ⟨⟨by decide, by decide⟩, ⟨by decide, by decide⟩⟩ (Nat.le_of_ble_eq_true rfl) (fun r1 s1 p1 => ?_)
  obtain ⟨rfl, rfl⟩ := p1
  refine V_ifeqB (tgt := 28) dX11_trayOn_4 (by decide) (fun br4 => ?_) (fun br4 => ?_)
  · exact absurd hq br4
  · refine V_aload_n dX11_trayOn_7 rfl ?_
    refine V_getfr dX11_trayOn_8 sf_RX11_27 (by decide) (sh hS rfl) (rf hS rfl) ?_
    refine V_iload_n dX11_trayOn_11 rfl ?_
    refine V_aald dX11_trayOn_12 (sh hS rfl) (by decide) (by omega) h1 ?_
    refine V_astore_n dX11_trayOn_13 (by decide) rfl ?_
    refine V_aload_n dX11_trayOn_14 rfl ?_
    refine V_instY dX11_trayOn_15 sl_RX11_306 h2 ⟨_, rfl, rfl⟩ ?_
    refine V_ifeq (tgt := 28) dX11_trayOn_18 (by decide) (by omega) (fun br18 => ?_) (fun br18 => ?_)
    · cases br18
    · refine V_aload_n dX11_trayOn_21 rfl ?_
      refine V_castY dX11_trayOn_22 sl_RX11_306 h2 ⟨_, rfl, rfl⟩ ?_
      refine V_astore_n dX11_trayOn_25 (by decide) rfl ?_
      refine V_aload_n dX11_trayOn_26 rfl ?_
      refine V_aret dX11_trayOn_27 rfl (Nat.le_refl _) (Nat.le_refl _) ?_
      exact ⟨rfl, rfl⟩
theorem c_trayNo (g : Gl) (σ : St) (A : Ab) (hC : CL σ A) (peg : Int) (h1 : inR peg) (hn : ¬ ((0 ≤ peg ∧ peg ≤ 5) ∧ 4 ≤ aP A peg.toNat)) : Ct g mX11_trayOn 2 0 0 [vq (some 8), vi peg] σ (rP (vq none) σ) := by
  refine Ct.of (by decide +kernel) (Nat.le_of_ble_eq_true rfl) ?_
  have hS := hC.1
  by_cases hq : 0 ≤ peg ∧ peg ≤ 5
  · have hP := hC.2.2.2.2.2.2.2.2.1 peg.toNat (by omega)
    rcases hP with ⟨x, y⟩ | ⟨x, b, y1, y2, y3, y4, y5, y6⟩ | ⟨x, b, y1, y2, y3, y4, y5⟩ | ⟨x, b, y1, y2, y3, y4⟩ | ⟨x, b, c, n, y1, y2, y3, y4, y5, y6, y7, y8, y9, y10⟩
    · refine V_iload_n dX11_trayOn_0 rfl ?_
      refine V_callS dX11_trayOn_1 (c_isPeg g _ _ (by omega)) ss_RX11_299 rfl ⟨⟨by decide, by decide⟩, ⟨by decide, by decide⟩⟩ (Nat.le_of_ble_eq_true rfl) (fun r1 s1 p1 => ?_)
      obtain ⟨rfl, rfl⟩ := p1
      refine V_ifeqB (tgt := 28) dX11_trayOn_4 (by decide) (fun br4 => ?_) (fun br4 => ?_)
      · exact absurd hq br4
      · refine V_aload_n dX11_trayOn_7 rfl ?_
        refine V_getfr dX11_trayOn_8 sf_RX11_27 (by decide) (sh hS rfl) (rf hS rfl) ?_
        refine V_iload_n dX11_trayOn_11 rfl ?_
        refine V_aald dX11_trayOn_12 (sh hS rfl) (by decide) (by omega) y ?_
        refine V_astore_n dX11_trayOn_13 (by decide) rfl ?_
        refine V_aload_n dX11_trayOn_14 rfl ?_
        refine V_instN dX11_trayOn_15 ?_
        refine V_ifeq (tgt := 28) dX11_trayOn_18 (by decide) (by omega) (fun br18 => ?_) (fun br18 => ?_)
        · refine V_null dX11_trayOn_28 ?_
          refine V_aret dX11_trayOn_29 rfl (Nat.le_refl _) (Nat.le_refl _) ?_
          exact ⟨rfl, rfl⟩
        · omega
    · refine V_iload_n dX11_trayOn_0 rfl ?_
      refine V_callS dX11_trayOn_1 (c_isPeg g _ _ (by omega)) ss_RX11_299 rfl ⟨⟨by decide, by decide⟩, ⟨by decide, by decide⟩⟩ (Nat.le_of_ble_eq_true rfl) (fun r1 s1 p1 => ?_)
      obtain ⟨rfl, rfl⟩ := p1
      refine V_ifeqB (tgt := 28) dX11_trayOn_4 (by decide) (fun br4 => ?_) (fun br4 => ?_)
      · exact absurd hq br4
      · refine V_aload_n dX11_trayOn_7 rfl ?_
        refine V_getfr dX11_trayOn_8 sf_RX11_27 (by decide) (sh hS rfl) (rf hS rfl) ?_
        refine V_iload_n dX11_trayOn_11 rfl ?_
        refine V_aald dX11_trayOn_12 (sh hS rfl) (by decide) (by omega) y1 ?_
        refine V_astore_n dX11_trayOn_13 (by decide) rfl ?_
        refine V_aload_n dX11_trayOn_14 rfl ?_
        refine V_instNo dX11_trayOn_15 sl_RX11_306 y3 ⟨_, rfl, by decide⟩ ?_
        refine V_ifeq (tgt := 28) dX11_trayOn_18 (by decide) (by omega) (fun br18 => ?_) (fun br18 => ?_)
        · refine V_null dX11_trayOn_28 ?_
          refine V_aret dX11_trayOn_29 rfl (Nat.le_refl _) (Nat.le_refl _) ?_
          exact ⟨rfl, rfl⟩
        · omega
    · refine V_iload_n dX11_trayOn_0 rfl ?_
      refine V_callS dX11_trayOn_1 (c_isPeg g _ _ (by omega)) ss_RX11_299 rfl ⟨⟨by decide, by decide⟩, ⟨by decide, by decide⟩⟩ (Nat.le_of_ble_eq_true rfl) (fun r1 s1 p1 => ?_)
      obtain ⟨rfl, rfl⟩ := p1
      refine V_ifeqB (tgt := 28) dX11_trayOn_4 (by decide) (fun br4 => ?_) (fun br4 => ?_)
      · exact absurd hq br4
      · refine V_aload_n dX11_trayOn_7 rfl ?_
        refine V_getfr dX11_trayOn_8 sf_RX11_27 (by decide) (sh hS rfl) (rf hS rfl) ?_
        refine V_iload_n dX11_trayOn_11 rfl ?_
        refine V_aald dX11_trayOn_12 (sh hS rfl) (by decide) (by omega) y1 ?_
        refine V_astore_n dX11_trayOn_13 (by decide) rfl ?_
        refine V_aload_n dX11_trayOn_14 rfl ?_
        refine V_instNo dX11_trayOn_15 sl_RX11_306 y3 ⟨_, rfl, by decide⟩ ?_
        refine V_ifeq (tgt := 28) dX11_trayOn_18 (by decide) (by omega) (fun br18 => ?_) (fun br18 => ?_)
        · refine V_null dX11_trayOn_28 ?_
          refine V_aret dX11_trayOn_29 rfl (Nat.le_refl _) (Nat.le_refl _) ?_
          exact ⟨rfl, rfl⟩
        · omega
    · refine V_iload_n dX11_trayOn_0 rfl ?_
      refine V_callS dX11_trayOn_1 (c_isPeg g _ _ (by omega)) ss_RX11_299 rfl ⟨⟨by decide, by decide⟩, ⟨by decide, by decide⟩⟩ (Nat.le_of_ble_eq_true rfl) (fun r1 s1 p1 => ?_)
      obtain ⟨rfl, rfl⟩ := p1
      refine V_ifeqB (tgt := 28) dX11_trayOn_4 (by decide) (fun br4 => ?_) (fun br4 => ?_)
      · exact absurd hq br4
      · refine V_aload_n dX11_trayOn_7 rfl ?_
        refine V_getfr dX11_trayOn_8 sf_RX11_27 (by decide) (sh hS rfl) (rf hS rfl) ?_
        refine V_iload_n dX11_trayOn_11 rfl ?_
        refine V_aald dX11_trayOn_12 (sh hS rfl) (by decide) (by omega) y1 ?_
        refine V_astore_n dX11_trayOn_13 (by decide) rfl ?_
        refine V_aload_n dX11_trayOn_14 rfl ?_
        refine V_instNo dX11_trayOn_15 sl_RX11_306 y3 ⟨_, rfl, by decide⟩ ?_
        refine V_ifeq (tgt := 28) dX11_trayOn_18 (by decide) (by omega) (fun br18 => ?_) (fun br18 => ?_)
        · refine V_null dX11_trayOn_28 ?_
          refine V_aret dX11_trayOn_29 rfl (Nat.le_refl _) (Nat.le_refl _) ?_
          exact ⟨rfl, rfl⟩
        · omega
    · exact absurd ⟨hq, by omega⟩ hn
  · refine V_iload_n dX11_trayOn_0 rfl ?_
    refine V_callS dX11_trayOn_1 (c_isPeg g _ _ (by omega)) ss_RX11_299 rfl ⟨⟨by decide, by decide⟩, ⟨by decide, by decide⟩⟩ (Nat.le_of_ble_eq_true rfl) (fun r1 s1 p1 => ?_)
    obtain ⟨rfl, rfl⟩ := p1
    refine V_ifeqB (tgt := 28) dX11_trayOn_4 (by decide) (fun br4 => ?_) (fun br4 => ?_)
    · refine V_null dX11_trayOn_28 ?_
      refine V_aret dX11_trayOn_29 rfl (Nat.le_refl _) (Nat.le_refl _) ?_
      exact ⟨rfl, rfl⟩
    · exact absurd br4 hq
def lackA (A : Ab) (peg : Int) : Int := if 0 ≤ peg ∧ peg ≤ 5 then (if aP A peg.toNat = 0 then -11 else -13) else -1
theorem PG.nil {σ : St} {A : Ab} {p : Nat} (h : PG σ A p) : (aP A p = 0 ∧ gP σ 19 p = none) ∨ (aP A p ≠ 0 ∧ ∃ b, gP σ 19 p = some b) := by
  rcases h with ⟨x, y⟩ | ⟨x, b, y, -⟩ | ⟨x, b, y, -⟩ | ⟨x, b, y, -⟩ | ⟨x, b, c, n, y, -⟩
  · exact Or.inl ⟨x, y⟩
  all_goals exact Or.inr ⟨by omega, b, y⟩
theorem c_lackOfTray (g : Gl) (σ : St) (A : Ab) (hC : CL σ A) (peg : Int) (h1 : inR peg) : Ct g mX11_lackOfTray 2 0 0 [vq (some 8), vi peg] σ (rP (vi (lackA A peg)) σ) := by
  refine Ct.of (by decide +kernel) (Nat.le_of_ble_eq_true rfl) ?_
  have hS := hC.1
  by_cases hq : 0 ≤ peg ∧ peg ≤ 5
  · rcases (hC.2.2.2.2.2.2.2.2.1 peg.toNat (by omega)).nil with ⟨x, y⟩ | ⟨x, b, y⟩
    · refine V_iload_n dX11_lackOfTray_0 rfl ?_
      refine V_callS dX11_lackOfTray_1 (c_isPeg g _ _ (by omega)) ss_RX11_299 rfl ⟨⟨by decide, by decide⟩, ⟨by decide, by decide⟩⟩ (Nat.le_of_ble_eq_true rfl) (fun r1 s1 p1 => ?_)
      obtain ⟨rfl, rfl⟩ := p1
      refine V_ifneB (tgt := 9) dX11_lackOfTray_4 (by decide) (fun br4 => ?_) (fun br4 => ?_)
      · refine V_aload_n dX11_lackOfTray_9 rfl ?_
        refine V_getfr dX11_lackOfTray_10 sf_RX11_27 (by decide) (sh hS rfl) (rf hS rfl) ?_
        refine V_iload_n dX11_lackOfTray_13 rfl ?_
        refine V_aald dX11_lackOfTray_14 (sh hS rfl) (by decide) (by omega) y ?_
        refine V_ifnonnull (tgt := 23) dX11_lackOfTray_15 (by decide) (fun a15 br15 => ?_) (fun br15 => ?_)
        · cases br15
        · refine V_bipush dX11_lackOfTray_18 (by decide) ?_
          refine V_goto (tgt := 25) dX11_lackOfTray_20 (by decide) ?_
          refine V_iret dX11_lackOfTray_25 rfl (Nat.le_refl _) (Nat.le_refl _) ?_
          exact rP_i (by unfold lackA; rw [if_pos hq, if_pos x]) rfl
      · exact absurd hq br4
    · refine V_iload_n dX11_lackOfTray_0 rfl ?_
      refine V_callS dX11_lackOfTray_1 (c_isPeg g _ _ (by omega)) ss_RX11_299 rfl ⟨⟨by decide, by decide⟩, ⟨by decide, by decide⟩⟩ (Nat.le_of_ble_eq_true rfl) (fun r1 s1 p1 => ?_)
      obtain ⟨rfl, rfl⟩ := p1
      refine V_ifneB (tgt := 9) dX11_lackOfTray_4 (by decide) (fun br4 => ?_) (fun br4 => ?_)
      · refine V_aload_n dX11_lackOfTray_9 rfl ?_
        refine V_getfr dX11_lackOfTray_10 sf_RX11_27 (by decide) (sh hS rfl) (rf hS rfl) ?_
        refine V_iload_n dX11_lackOfTray_13 rfl ?_
        refine V_aald dX11_lackOfTray_14 (sh hS rfl) (by decide) (by omega) y ?_
        refine V_ifnonnull (tgt := 23) dX11_lackOfTray_15 (by decide) (fun a15 br15 => ?_) (fun br15 => ?_)
        · refine V_bipush dX11_lackOfTray_23 (by decide) ?_
          refine V_iret dX11_lackOfTray_25 rfl (Nat.le_refl _) (Nat.le_refl _) ?_
          exact rP_i (by unfold lackA; rw [if_pos hq, if_neg x]) rfl
        · cases br15
      · exact absurd hq br4
  · refine V_iload_n dX11_lackOfTray_0 rfl ?_
    refine V_callS dX11_lackOfTray_1 (c_isPeg g _ _ (by omega)) ss_RX11_299 rfl ⟨⟨by decide, by decide⟩, ⟨by decide, by decide⟩⟩ (Nat.le_of_ble_eq_true rfl) (fun r1 s1 p1 => ?_)
    obtain ⟨rfl, rfl⟩ := p1
    refine V_ifneB (tgt := 9) dX11_lackOfTray_4 (by decide) (fun br4 => ?_) (fun br4 => ?_)
    · exact absurd br4 hq
    · refine V_iconst dX11_lackOfTray_7 ?_
      refine V_iret dX11_lackOfTray_8 rfl (Nat.le_refl _) (Nat.le_refl _) ?_
      exact rP_i (if_neg hq).symm rfl