/-! leaves: numbers alone -/
theorem c_isIn (g : Gl) (σ : St) (v lo hi : Int) (h1 : inR v) (h2 : inR lo) (h3 : inR hi) : Ct g mX11_isIn 0 0 0 [vi v, vi lo, vi hi] σ (rP (vi (bI (lo ≤ v ∧ v ≤ hi))) σ) := by
  refine Ct.of (by decide +kernel) (Nat.le_of_ble_eq_true rfl) ?_
  refine V_iload_n dX11_isIn_0 rfl ?_
  refine V_iload_n dX11_isIn_1 rfl ?_
  refine V_icmplt (tgt := 14) dX11_isIn_2 (by decide) (by omega) (by omega) (fun br2 => ?_) (fun br2 => ?_)
  · refine V_iconst dX11_isIn_14 ?_
    refine V_zret dX11_isIn_15 rfl (Nat.le_refl _) (Nat.le_refl _) (by first | omega | exact bI_01 _) ?_
    first | exact rP_t (by omega) | exact rP_f (by omega)
  · refine V_iload_n dX11_isIn_5 rfl ?_
    refine V_iload_n dX11_isIn_6 rfl ?_
    refine V_icmpgt (tgt := 14) dX11_isIn_7 (by decide) (by omega) (by omega) (fun br7 => ?_) (fun br7 => ?_)
    · refine V_iconst dX11_isIn_14 ?_
      refine V_zret dX11_isIn_15 rfl (Nat.le_refl _) (Nat.le_refl _) (by first | omega | exact bI_01 _) ?_
      first | exact rP_t (by omega) | exact rP_f (by omega)
    · refine V_iconst dX11_isIn_10 ?_
      refine V_goto (tgt := 15) dX11_isIn_11 (by decide) ?_
      refine V_zret dX11_isIn_15 rfl (Nat.le_refl _) (Nat.le_refl _) (by first | omega | exact bI_01 _) ?_
      first | exact rP_t (by omega) | exact rP_f (by omega)
theorem c_within (g : Gl) (σ : St) (v lo hi : Int) (h1 : inR v) (h2 : inR lo) (h3 : inR hi) : Ct g mX12_within 0 0 0 [vi v, vi lo, vi hi] σ (rP (vi (bI (lo ≤ v ∧ v ≤ hi))) σ) := by
  refine Ct.of (by decide +kernel) (Nat.le_of_ble_eq_true rfl) ?_
  refine V_iload_n dX12_within_0 rfl ?_
  refine V_iload_n dX12_within_1 rfl ?_
  refine V_icmplt (tgt := 14) dX12_within_2 (by decide) (by omega) (by omega) (fun br2 => ?_) (fun br2 => ?_)
  · refine V_iconst dX12_within_14 ?_
    refine V_zret dX12_within_15 rfl (Nat.le_refl _) (Nat.le_refl _) (by first | omega | exact bI_01 _) ?_
    first | exact rP_t (by omega) | exact rP_f (by omega)
  · refine V_iload_n dX12_within_5 rfl ?_
    refine V_iload_n dX12_within_6 rfl ?_
    refine V_icmpgt (tgt := 14) dX12_within_7 (by decide) (by omega) (by omega) (fun br7 => ?_) (fun br7 => ?_)
    · refine V_iconst dX12_within_14 ?_
      refine V_zret dX12_within_15 rfl (Nat.le_refl _) (Nat.le_refl _) (by first | omega | exact bI_01 _) ?_
      first | exact rP_t (by omega) | exact rP_f (by omega)
    · refine V_iconst dX12_within_10 ?_
      refine V_goto (tgt := 15) dX12_within_11 (by decide) ?_
      refine V_zret dX12_within_15 rfl (Nat.le_refl _) (Nat.le_refl _) (by first | omega | exact bI_01 _) ?_
      first | exact rP_t (by omega) | exact rP_f (by omega)
theorem c_isPress (g : Gl) (σ : St) (p : Int) (h1 : inR p) : Ct g mX11_isPress 1 0 0 [vi p] σ (rP (vi (bI (0 ≤ p ∧ p ≤ 99))) σ) := by
  refine Ct.of (by decide +kernel) (Nat.le_of_ble_eq_true rfl) ?_
  refine V_iload_n dX11_isPress_0 rfl ?_
  refine V_iconst dX11_isPress_1 ?_
  refine V_bipush dX11_isPress_2 (by decide) ?_
  refine V_callS dX11_isPress_4 (c_isIn g _ _ _ _ (by omega) (by omega) (by omega)) ss_RX11_107 rfl ⟨⟨by decide, by decide⟩, ⟨by decide, by decide⟩⟩ (Nat.le_of_ble_eq_true rfl) (fun r4 s4 p4 => ?_)
  obtain ⟨rfl, rfl⟩ := p4
  refine V_zret dX11_isPress_7 rfl (Nat.le_refl _) (Nat.le_refl _) (by first | omega | exact bI_01 _) ?_
  exact ⟨rfl, rfl⟩
theorem c_isHeight (g : Gl) (σ : St) (p : Int) (h1 : inR p) : Ct g mX11_isHeight 1 0 0 [vi p] σ (rP (vi (bI (0 ≤ p ∧ p ≤ 8))) σ) := by
  refine Ct.of (by decide +kernel) (Nat.le_of_ble_eq_true rfl) ?_
  refine V_iload_n dX11_isHeight_0 rfl ?_
  refine V_iconst dX11_isHeight_1 ?_
  refine V_bipush dX11_isHeight_2 (by decide) ?_
  refine V_callS dX11_isHeight_4 (c_isIn g _ _ _ _ (by omega) (by omega) (by omega)) ss_RX11_107 rfl ⟨⟨by decide, by decide⟩, ⟨by decide, by decide⟩⟩ (Nat.le_of_ble_eq_true rfl) (fun r4 s4 p4 => ?_)
  obtain ⟨rfl, rfl⟩ := p4
  refine V_zret dX11_isHeight_7 rfl (Nat.le_refl _) (Nat.le_refl _) (by first | omega | exact bI_01 _) ?_
  exact ⟨rfl, rfl⟩
theorem c_isRadius (g : Gl) (σ : St) (p : Int) (h1 : inR p) : Ct g mX11_isRadius 1 0 0 [vi p] σ (rP (vi (bI (1 ≤ p ∧ p ≤ 200))) σ) := by
  refine Ct.of (by decide +kernel) (Nat.le_of_ble_eq_true rfl) ?_
  refine V_iload_n dX11_isRadius_0 rfl ?_
  refine V_iconst dX11_isRadius_1 ?_
  refine V_sipush dX11_isRadius_2 (by decide) ?_
  refine V_callS dX11_isRadius_5 (c_isIn g _ _ _ _ (by omega) (by omega) (by omega)) ss_RX11_107 rfl ⟨⟨by decide, by decide⟩, ⟨by decide, by decide⟩⟩ (Nat.le_of_ble_eq_true rfl) (fun r5 s5 p5 => ?_)
  obtain ⟨rfl, rfl⟩ := p5
  refine V_zret dX11_isRadius_8 rfl (Nat.le_refl _) (Nat.le_refl _) (by first | omega | exact bI_01 _) ?_
  exact ⟨rfl, rfl⟩
theorem c_isPeg (g : Gl) (σ : St) (p : Int) (h1 : inR p) : Ct g mX11_isPeg 1 0 0 [vi p] σ (rP (vi (bI (0 ≤ p ∧ p ≤ 5))) σ) := by
  refine Ct.of (by decide +kernel) (Nat.le_of_ble_eq_true rfl) ?_
  refine V_iload_n dX11_isPeg_0 rfl ?_
  refine V_iconst dX11_isPeg_1 ?_
  refine V_iconst dX11_isPeg_2 ?_
  refine V_callS dX11_isPeg_3 (c_isIn g _ _ _ _ (by omega) (by omega) (by omega)) ss_RX11_107 rfl ⟨⟨by decide, by decide⟩, ⟨by decide, by decide⟩⟩ (Nat.le_of_ble_eq_true rfl) (fun r3 s3 p3 => ?_)
  obtain ⟨rfl, rfl⟩ := p3
  refine V_zret dX11_isPeg_6 rfl (Nat.le_refl _) (Nat.le_refl _) (by first | omega | exact bI_01 _) ?_
  exact ⟨rfl, rfl⟩
theorem c_mIsPress (g : Gl) (σ : St) (p : Int) (h1 : inR p) : Ct g mX12_isPress 1 0 0 [vi p] σ (rP (vi (bI (0 ≤ p ∧ p ≤ 99))) σ) := by
  refine Ct.of (by decide +kernel) (Nat.le_of_ble_eq_true rfl) ?_
  refine V_iload_n dX12_isPress_0 rfl ?_
  refine V_iconst dX12_isPress_1 ?_
  refine V_bipush dX12_isPress_2 (by decide) ?_
  refine V_callS dX12_isPress_4 (c_within g _ _ _ _ (by omega) (by omega) (by omega)) ss_RX12_58 rfl ⟨⟨by decide, by decide⟩, ⟨by decide, by decide⟩⟩ (Nat.le_of_ble_eq_true rfl) (fun r4 s4 p4 => ?_)
  obtain ⟨rfl, rfl⟩ := p4
  refine V_zret dX12_isPress_7 rfl (Nat.le_refl _) (Nat.le_refl _) (by first | omega | exact bI_01 _) ?_
  exact ⟨rfl, rfl⟩
theorem c_mIsPeg (g : Gl) (σ : St) (p : Int) (h1 : inR p) : Ct g mX12_isPeg 1 0 0 [vi p] σ (rP (vi (bI (0 ≤ p ∧ p ≤ 5))) σ) := by
  refine Ct.of (by decide +kernel) (Nat.le_of_ble_eq_true rfl) ?_
  refine V_iload_n dX12_isPeg_0 rfl ?_
  refine V_iconst dX12_isPeg_1 ?_
  refine V_iconst dX12_isPeg_2 ?_
  refine V_callS dX12_isPeg_3 (c_within g _ _ _ _ (by omega) (by omega) (by omega)) ss_RX12_58 rfl ⟨⟨by decide, by decide⟩, ⟨by decide, by decide⟩⟩ (Nat.le_of_ble_eq_true rfl) (fun r3 s3 p3 => ?_)
  obtain ⟨rfl, rfl⟩ := p3
  refine V_zret dX12_isPeg_6 rfl (Nat.le_refl _) (Nat.le_refl _) (by first | omega | exact bI_01 _) ?_
  exact ⟨rfl, rfl⟩