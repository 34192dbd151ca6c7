/-! the law from its first instruction on -/
theorem sY_n : gn sYS = 77 := by decide +kernel
theorem addC_is {σ : St} {s : Sh} : gl (addC σ s) (gn σ) = some s := up1_is _ _ _
theorem addC_lt {σ : St} {s : Sh} : gn σ < gn (addC σ s) := Nat.lt_succ_self _
theorem law_V (g : Gl) (hL : gL0 g ≤ 3072) : V g mL_law room_1 (QM g 600000 7302250 lwQ) 0 [some (vq (some 4)), none, none, none] [] 0 0 s0S := by
  refine V_new dL_law_0 sn_RL_7 (Nat.le_of_ble_eq_true rfl) (Nat.le_of_ble_eq_true rfl) ?_
  refine V_dup dL_law_3 rfl ?_
  refine V_callI dL_law_4 (c_i11 g _ (gn s0S) addC_is addC_lt) si_RL_9 rfl ⟨⟨(Nat.le_of_ble_eq_true rfl), (Nat.le_of_ble_eq_true rfl)⟩, ⟨(Nat.le_of_ble_eq_true rfl), (Nat.le_of_ble_eq_true rfl)⟩⟩ (Nat.le_of_ble_eq_true rfl) (fun r4 s4 p4 => ?_)
  obtain ⟨rfl, rfl⟩ := p4
  refine V_sta (σ' := sYS) rfl ?_
  refine V_astore_n dL_law_7 (by decide) rfl ?_
  refine V_new dL_law_8 sn_RL_10 (Nat.le_of_ble_eq_true rfl) (Nat.le_of_ble_eq_true rfl) ?_
  refine V_dup dL_law_11 rfl ?_
  refine V_callI dL_law_12 (c_i12 g _ (gn sYS) addC_is addC_lt) si_RL_12 rfl ⟨⟨(Nat.le_of_ble_eq_true rfl), (Nat.le_of_ble_eq_true rfl)⟩, ⟨(Nat.le_of_ble_eq_true rfl), (Nat.le_of_ble_eq_true rfl)⟩⟩ (Nat.le_of_ble_eq_true rfl) (fun r12 s12 p12 => ?_)
  obtain ⟨rfl, rfl⟩ := p12
  rw [sY_n]
  refine V_sta (σ' := sFS) rfl ?_
  refine V_astore_n dL_law_15 (by decide) rfl ?_
  refine V_iconst dL_law_16 ?_
  refine V_istore_n dL_law_17 (by decide) rfl ?_
  refine V_mask [true, true, true, true] ?_
  exact law_loop g hL _ 0 A0 sFS _ _ (Nat.lt_succ_self _) A0_cl A0_mr A0_ai (Nat.le_of_ble_eq_true rfl) (Nat.le_of_ble_eq_true rfl) (by omega)