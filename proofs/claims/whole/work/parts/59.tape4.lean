/-! what of a text can't be done -/
theorem dgF_v {t : Nat → Int} {n : Int} : ∀ (m : Nat) (v c : Int), 0 ≤ v → (dgF t n m v c).1 ≤ v * 10 ^ m + (10 ^ m - 1) ∧ 0 ≤ (dgF t n m v c).1
  | 0, v, c, h => by show v ≤ v * 1 + (1 - 1) ∧ 0 ≤ v; omega
  | m + 1, v, c, h => by
    have hp : (1 : Int) ≤ 10 ^ m := by
      have := Nat.one_le_pow m 10 (by decide)
      have e := Int.ofNat_le.mpr this
      rw [Int.natCast_pow] at e
      exact e
    have hv : v * (10 ^ m * 10) = (v * 10 ^ m) * 10 := by rw [Int.mul_assoc]
    have hq : 0 ≤ v * 10 ^ m := Int.mul_nonneg h (by omega)
    have hq2 : v ≤ v * 10 ^ m := by
      have := Int.mul_le_mul_of_nonneg_left hp h
      omega
    unfold dgF
    rw [Int.pow_succ, hv]
    split
    · have a := dgF_v (t := t) (n := n) m (v * 10 + pk t n c - 48) (c + 1) (by omega)
      have b : (v * 10 + pk t n c - 48) * 10 ^ m ≤ (v * 10 + 9) * 10 ^ m := Int.mul_le_mul_of_nonneg_right (by omega) (by omega)
      have d : (v * 10 + 9) * 10 ^ m = v * 10 ^ m * 10 + 9 * 10 ^ m := by rw [Int.add_mul, Int.mul_assoc, Int.mul_comm 10, ← Int.mul_assoc]
      omega
    · show v ≤ _ ∧ 0 ≤ v
      omega
theorem nuV_b (t : Nat → Int) (n c : Int) : -9999 ≤ nuV t n c ∧ nuV t n c ≤ 9999 := by
  have a := dgF_v (t := t) (n := n) 4 0 (nuS t n c) (Int.le_refl _)
  have e : (10 : Int) ^ 4 = 10000 := by decide
  unfold nuV
  split <;> omega
theorem stV_b {t : Nat → Int} {n : Int} : ∀ (m j : Nat) (c : Int) (i : Nat), -9999 ≤ (stV t n m j c).getD i 0 ∧ (stV t n m j c).getD i 0 ≤ 9999
  | 0, _, _, i => by show -9999 ≤ (0 : Int) ∧ (0 : Int) ≤ 9999; decide
  | m + 1, j, c, 0 => nuV_b t n _
  | m + 1, j, c, i + 1 => stV_b m (j + 1) _ i
theorem stL_b (t : Nat → Int) (n c : Int) (i : Nat) : -9999 ≤ (stL t n c).getD i 0 ∧ (stL t n c).getD i 0 ≤ 9999 := stV_b _ _ _ i
/-- whether a statement's numbers are in their bounds -/
abbrev okT (t : Nat → Int) (n c : Int) : Prop := (pk t n c = 115 ∧ okS ((stL t n c).getD 0 0) ((stL t n c).getD 1 0) ((stL t n c).getD 2 0) ((stL t n c).getD 3 0)) ∨ (pk t n c = 104 ∧ okH ((stL t n c).getD 0 0) ((stL t n c).getD 1 0) ((stL t n c).getD 2 0)) ∨ (pk t n c = 98 ∧ okB ((stL t n c).getD 0 0)) ∨ (pk t n c = 103 ∧ okR 0 ((stL t n c).getD 0 0)) ∨ (pk t n c = 116 ∧ okR 2 ((stL t n c).getD 0 0))
theorem bI_eq {P Q : Prop} [Decidable P] [Decidable Q] (h : P ↔ Q) : bI P = bI Q := by
  by_cases p : P
  · rw [bI_t p, bI_t (h.mp p)]
  · rw [bI_f p, bI_f (fun q => p (h.mpr q))]
theorem c_isInBounds (g : Gl) (σ : St) (hS : Std σ) (t : Nat → Int) (n c : Int) (i : Nat) (hi : i < 27) (h : RW σ t n i c) (hl : hmN (pk t n c) ≠ 0) : Ct g mX8_isInBounds 2 0 0 [vi (pk t n c), vq (some (25 + i))] σ (rP (vi (bI (okT t n c))) σ) := by
  refine Ct.of (by decide +kernel) (Nat.le_of_ble_eq_true rfl) ?_
  have hp : pk t n c = 115 ∨ pk t n c = 104 ∨ pk t n c = 98 ∨ pk t n c = 103 ∨ pk t n c = 116 := by
    unfold hmN at hl
    (repeat' split at hl) <;> omega
  have b0 := stL_b t n c 0
  have b1 := stL_b t n c 1
  have b2 := stL_b t n c 2
  have b3 := stL_b t n c 3
  have hv := h.2.2
  have e4 : pk t n c = 115 → (hmN (pk t n c)).toNat = 4 := fun q => by rw [q]; rfl
  have e3 : pk t n c = 104 → (hmN (pk t n c)).toNat = 3 := fun q => by rw [q]; rfl
  have e1 : pk t n c = 98 ∨ pk t n c = 103 ∨ pk t n c = 116 → (hmN (pk t n c)).toNat = 1 := fun q => by rcases q with q | q | q <;> (rw [q]; rfl)
  refine V_iload_n dX8_isInBounds_0 rfl ?_
  refine V_lsw4 (td := 88) (t0 := 73) (t1 := 80) (t2 := 60) (t3 := 44) dX8_isInBounds_1 (by omega) rfl (by decide) (by decide) (by decide) (by decide) (by decide) (fun br1_0 br1_1 br1_2 br1_3 => ?_) (fun br1 => ?_) (fun br1 => ?_) (fun br1 => ?_) (fun br1 => ?_)
  · refine V_iconst dX8_isInBounds_88 ?_
    refine V_aload_n dX8_isInBounds_89 rfl ?_
    refine V_iconst dX8_isInBounds_90 ?_
    refine V_iald dX8_isInBounds_91 (sh hS (lay25 i hi)) (by omega) ?_
    refine V_val (show _ = ((stL t n c).getD 0 0) from hv 0 (by first | (rw [e4 (by omega)]; decide) | (rw [e3 (by omega)]; decide) | (rw [e1 (by omega)]; decide))) ?_
    refine V_callS dX8_isInBounds_92 (c_canRule g _ 2 ((stL t n c).getD 0 0) (by decide) (by omega)) ss_RX8_89 rfl ⟨⟨by decide, by decide⟩, ⟨by decide, by decide⟩⟩ (Nat.le_of_ble_eq_true rfl) (fun r92 s92 p92 => ?_)
    obtain ⟨rfl, rfl⟩ := p92
    refine V_zret dX8_isInBounds_95 rfl (Nat.le_refl _) (Nat.le_refl _) (by first | omega | exact bI_01 _) ?_
    exact rP_i (bI_eq ⟨fun z => by
        first
          | exact Or.inl ⟨by omega, z⟩
          | exact Or.inr (Or.inl ⟨by omega, z⟩)
          | exact Or.inr (Or.inr (Or.inl ⟨by omega, z⟩))
          | exact Or.inr (Or.inr (Or.inr (Or.inl ⟨by omega, z⟩)))
          | exact Or.inr (Or.inr (Or.inr (Or.inr ⟨by omega, z⟩))), fun z => by
        rcases z with z | z | z | z | z <;> first | exact absurd z.1 (by omega) | exact z.2⟩) rfl
  · refine V_aload_n dX8_isInBounds_73 rfl ?_
    refine V_iconst dX8_isInBounds_74 ?_
    refine V_iald dX8_isInBounds_75 (sh hS (lay25 i hi)) (by omega) ?_
    refine V_val (show _ = ((stL t n c).getD 0 0) from hv 0 (by first | (rw [e4 (by omega)]; decide) | (rw [e3 (by omega)]; decide) | (rw [e1 (by omega)]; decide))) ?_
    refine V_callS dX8_isInBounds_76 (c_bCanBe g _ ((stL t n c).getD 0 0) (by omega)) ss_RX8_85 rfl ⟨⟨by decide, by decide⟩, ⟨by decide, by decide⟩⟩ (Nat.le_of_ble_eq_true rfl) (fun r76 s76 p76 => ?_)
    obtain ⟨rfl, rfl⟩ := p76
    refine V_zret dX8_isInBounds_79 rfl (Nat.le_refl _) (Nat.le_refl _) (by first | omega | exact bI_01 _) ?_
    exact rP_i (bI_eq ⟨fun z => by
        first
          | exact Or.inl ⟨by omega, z⟩
          | exact Or.inr (Or.inl ⟨by omega, z⟩)
          | exact Or.inr (Or.inr (Or.inl ⟨by omega, z⟩))
          | exact Or.inr (Or.inr (Or.inr (Or.inl ⟨by omega, z⟩)))
          | exact Or.inr (Or.inr (Or.inr (Or.inr ⟨by omega, z⟩))), fun z => by
        rcases z with z | z | z | z | z <;> first | exact absurd z.1 (by omega) | exact z.2⟩) rfl
  · refine V_iconst dX8_isInBounds_80 ?_
    refine V_aload_n dX8_isInBounds_81 rfl ?_
    refine V_iconst dX8_isInBounds_82 ?_
    refine V_iald dX8_isInBounds_83 (sh hS (lay25 i hi)) (by omega) ?_
    refine V_val (show _ = ((stL t n c).getD 0 0) from hv 0 (by first | (rw [e4 (by omega)]; decide) | (rw [e3 (by omega)]; decide) | (rw [e1 (by omega)]; decide))) ?_
    refine V_callS dX8_isInBounds_84 (c_canRule g _ 0 ((stL t n c).getD 0 0) (by decide) (by omega)) ss_RX8_89 rfl ⟨⟨by decide, by decide⟩, ⟨by decide, by decide⟩⟩ (Nat.le_of_ble_eq_true rfl) (fun r84 s84 p84 => ?_)
    obtain ⟨rfl, rfl⟩ := p84
    refine V_zret dX8_isInBounds_87 rfl (Nat.le_refl _) (Nat.le_refl _) (by first | omega | exact bI_01 _) ?_
    exact rP_i (bI_eq ⟨fun z => by
        first
          | exact Or.inl ⟨by omega, z⟩
          | exact Or.inr (Or.inl ⟨by omega, z⟩)
          | exact Or.inr (Or.inr (Or.inl ⟨by omega, z⟩))
          | exact Or.inr (Or.inr (Or.inr (Or.inl ⟨by omega, z⟩)))
          | exact Or.inr (Or.inr (Or.inr (Or.inr ⟨by omega, z⟩))), fun z => by
        rcases z with z | z | z | z | z <;> first | exact absurd z.1 (by omega) | exact z.2⟩) rfl
  · refine V_aload_n dX8_isInBounds_60 rfl ?_
    refine V_iconst dX8_isInBounds_61 ?_
    refine V_iald dX8_isInBounds_62 (sh hS (lay25 i hi)) (by omega) ?_
    refine V_val (show _ = ((stL t n c).getD 0 0) from hv 0 (by first | (rw [e4 (by omega)]; decide) | (rw [e3 (by omega)]; decide) | (rw [e1 (by omega)]; decide))) ?_
    refine V_aload_n dX8_isInBounds_63 rfl ?_
    refine V_iconst dX8_isInBounds_64 ?_
    refine V_iald dX8_isInBounds_65 (sh hS (lay25 i hi)) (by omega) ?_
    refine V_val (show _ = ((stL t n c).getD 1 0) from hv 1 (by first | (rw [e4 (by omega)]; decide) | (rw [e3 (by omega)]; decide))) ?_
    refine V_aload_n dX8_isInBounds_66 rfl ?_
    refine V_iconst dX8_isInBounds_67 ?_
    refine V_iald dX8_isInBounds_68 (sh hS (lay25 i hi)) (by omega) ?_
    refine V_val (show _ = ((stL t n c).getD 2 0) from hv 2 (by first | (rw [e4 (by omega)]; decide) | (rw [e3 (by omega)]; decide))) ?_
    refine V_callS dX8_isInBounds_69 (c_hCanBe g _ ((stL t n c).getD 0 0) ((stL t n c).getD 1 0) ((stL t n c).getD 2 0) (by omega) (by omega) (by omega)) ss_RX8_81 rfl ⟨⟨by decide, by decide⟩, ⟨by decide, by decide⟩⟩ (Nat.le_of_ble_eq_true rfl) (fun r69 s69 p69 => ?_)
    obtain ⟨rfl, rfl⟩ := p69
    refine V_zret dX8_isInBounds_72 rfl (Nat.le_refl _) (Nat.le_refl _) (by first | omega | exact bI_01 _) ?_
    exact rP_i (bI_eq ⟨fun z => by
        first
          | exact Or.inl ⟨by omega, z⟩
          | exact Or.inr (Or.inl ⟨by omega, z⟩)
          | exact Or.inr (Or.inr (Or.inl ⟨by omega, z⟩))
          | exact Or.inr (Or.inr (Or.inr (Or.inl ⟨by omega, z⟩)))
          | exact Or.inr (Or.inr (Or.inr (Or.inr ⟨by omega, z⟩))), fun z => by
        rcases z with z | z | z | z | z <;> first | exact absurd z.1 (by omega) | exact z.2⟩) rfl
  · refine V_aload_n dX8_isInBounds_44 rfl ?_
    refine V_iconst dX8_isInBounds_45 ?_
    refine V_iald dX8_isInBounds_46 (sh hS (lay25 i hi)) (by omega) ?_
    refine V_val (show _ = ((stL t n c).getD 0 0) from hv 0 (by first | (rw [e4 (by omega)]; decide) | (rw [e3 (by omega)]; decide) | (rw [e1 (by omega)]; decide))) ?_
    refine V_aload_n dX8_isInBounds_47 rfl ?_
    refine V_iconst dX8_isInBounds_48 ?_
    refine V_iald dX8_isInBounds_49 (sh hS (lay25 i hi)) (by omega) ?_
    refine V_val (show _ = ((stL t n c).getD 1 0) from hv 1 (by first | (rw [e4 (by omega)]; decide) | (rw [e3 (by omega)]; decide))) ?_
    refine V_aload_n dX8_isInBounds_50 rfl ?_
    refine V_iconst dX8_isInBounds_51 ?_
    refine V_iald dX8_isInBounds_52 (sh hS (lay25 i hi)) (by omega) ?_
    refine V_val (show _ = ((stL t n c).getD 2 0) from hv 2 (by first | (rw [e4 (by omega)]; decide) | (rw [e3 (by omega)]; decide))) ?_
    refine V_aload_n dX8_isInBounds_53 rfl ?_
    refine V_iconst dX8_isInBounds_54 ?_
    refine V_iald dX8_isInBounds_55 (sh hS (lay25 i hi)) (by omega) ?_
    refine V_val (show _ = ((stL t n c).getD 3 0) from hv 3 (by rw [e4 (by omega)]; decide)) ?_
    refine V_callS dX8_isInBounds_56 (c_sCanBe g _ ((stL t n c).getD 0 0) ((stL t n c).getD 1 0) ((stL t n c).getD 2 0) ((stL t n c).getD 3 0) (by omega) (by omega) (by omega) (by omega)) ss_RX8_75 rfl ⟨⟨by decide, by decide⟩, ⟨by decide, by decide⟩⟩ (Nat.le_of_ble_eq_true rfl) (fun r56 s56 p56 => ?_)
    obtain ⟨rfl, rfl⟩ := p56
    refine V_zret dX8_isInBounds_59 rfl (Nat.le_refl _) (Nat.le_refl _) (by first | omega | exact bI_01 _) ?_
    exact rP_i (bI_eq ⟨fun z => by
        first
          | exact Or.inl ⟨by omega, z⟩
          | exact Or.inr (Or.inl ⟨by omega, z⟩)
          | exact Or.inr (Or.inr (Or.inl ⟨by omega, z⟩))
          | exact Or.inr (Or.inr (Or.inr (Or.inl ⟨by omega, z⟩)))
          | exact Or.inr (Or.inr (Or.inr (Or.inr ⟨by omega, z⟩))), fun z => by
        rcases z with z | z | z | z | z <;> first | exact absurd z.1 (by omega) | exact z.2⟩) rfl