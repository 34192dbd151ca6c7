theorem nwA_gP {σ : St} {a f t N j : Nat} (hj : j ≠ f) (h : a < gn σ) : gP (nwA σ a f t N) a j = gP σ a j := by
  have e1 : gP (nwA σ a f t N) a = up1 (gP (addC σ (.inr (t, N))) a) f (some (gn σ)) := gP_up
  rw [e1, up1_ne _ hj]
  exact congrFun (up1_ne _ (by omega) _) j
theorem c_i12 (g : Gl) (σ : St) (a : Nat) (h0 : gl σ a = some (.inl 11)) (l0 : a < gn σ) : Ct g mX12_init 1 15 777 [vq (some a)] σ (rV (i12S σ a)) := by
  refine Ct.of (by decide +kernel) (Nat.le_of_ble_eq_true rfl) ?_
  refine V_aload_n dX12_init_0 rfl ?_
  refine V_objInit dX12_init_1 so_RX12_3 (by decide) (Nat.le_of_ble_eq_true rfl) ?_
  refine V_aload_n dX12_init_4 rfl ?_
  refine V_bipush dX12_init_5 (by decide) ?_
  refine V_newa (t := 0) (N := 77) dX12_init_7 List.mem_cons_self (by decide) (Nat.le_of_ble_eq_true rfl) (Nat.le_of_ble_eq_true rfl) ?_
  refine V_putr (ty := .array .int) dX12_init_9 sp_RX12_9 (by decide +kernel) rfl (by decide) ((addC_gl l0).trans h0) ?_
  obtain ⟨τ1, e1⟩ : ∃ τ, τ = nwA σ a 0 0 77 := ⟨_, rfl⟩
  refine V_sta (σ' := τ1) e1.symm ?_
  have h1 : gl τ1 a = some (.inl 11) := by rw [e1]; exact (nwA_gl l0).trans h0
  have l1 : a < gn τ1 := by rw [e1]; exact nwA_lt l0
  have r1 : gP τ1 a 0 = some (gn σ) := by rw [e1]; exact (congrFun gP_up 0).trans (up1_is _ _ _)
  have m1 : gn σ < gn τ1 := by rw [e1]; exact Nat.lt_succ_self _
  have s1 : gl τ1 (gn σ) = some (.inr (0, 77)) := by rw [e1]; exact up1_is _ _ _
  refine V_aload_n dX12_init_12 rfl ?_
  refine V_bipush dX12_init_13 (by decide) ?_
  refine V_newa (t := 0) (N := 77) dX12_init_15 List.mem_cons_self (by decide) (Nat.le_of_ble_eq_true rfl) (Nat.le_of_ble_eq_true rfl) ?_
  refine V_putr (ty := .array .int) dX12_init_17 sp_RX12_15 (by decide +kernel) rfl (by decide) ((addC_gl l1).trans h1) ?_
  obtain ⟨τ2, e2⟩ : ∃ τ, τ = nwA τ1 a 1 0 77 := ⟨_, rfl⟩
  refine V_sta (σ' := τ2) e2.symm ?_
  have h2 : gl τ2 a = some (.inl 11) := by rw [e2]; exact (nwA_gl l1).trans h1
  have l2 : a < gn τ2 := by rw [e2]; exact nwA_lt l1
  have r2 : gP τ2 a 0 = some (gn σ) := by rw [e2]; exact (nwA_gP (by decide) l1).trans r1
  have m2 : gn σ < gn τ2 := by rw [e2]; exact nwA_lt m1
  have s2 : gl τ2 (gn σ) = some (.inr (0, 77)) := by rw [e2]; exact (nwA_gl m1).trans s1
  refine V_aload_n dX12_init_20 rfl ?_
  refine V_bipush dX12_init_21 (by decide) ?_
  refine V_newa (t := 0) (N := 77) dX12_init_23 List.mem_cons_self (by decide) (Nat.le_of_ble_eq_true rfl) (Nat.le_of_ble_eq_true rfl) ?_
  refine V_putr (ty := .array .int) dX12_init_25 sp_RX12_18 (by decide +kernel) rfl (by decide) ((addC_gl l2).trans h2) ?_
  obtain ⟨τ3, e3⟩ : ∃ τ, τ = nwA τ2 a 2 0 77 := ⟨_, rfl⟩
  refine V_sta (σ' := τ3) e3.symm ?_
  have h3 : gl τ3 a = some (.inl 11) := by rw [e3]; exact (nwA_gl l2).trans h2
  have l3 : a < gn τ3 := by rw [e3]; exact nwA_lt l2
  have r3 : gP τ3 a 0 = some (gn σ) := by rw [e3]; exact (nwA_gP (by decide) l2).trans r2
  have m3 : gn σ < gn τ3 := by rw [e3]; exact nwA_lt m2
  have s3 : gl τ3 (gn σ) = some (.inr (0, 77)) := by rw [e3]; exact (nwA_gl m2).trans s2
  refine V_aload_n dX12_init_28 rfl ?_
  refine V_bipush dX12_init_29 (by decide) ?_
  refine V_newa (t := 0) (N := 80) dX12_init_31 List.mem_cons_self (by decide) (Nat.le_of_ble_eq_true rfl) (Nat.le_of_ble_eq_true rfl) ?_
  refine V_putr (ty := .array .int) dX12_init_33 sp_RX12_21 (by decide +kernel) rfl (by decide) ((addC_gl l3).trans h3) ?_
  obtain ⟨τ4, e4⟩ : ∃ τ, τ = nwA τ3 a 7 0 80 := ⟨_, rfl⟩
  refine V_sta (σ' := τ4) e4.symm ?_
  have h4 : gl τ4 a = some (.inl 11) := by rw [e4]; exact (nwA_gl l3).trans h3
  have l4 : a < gn τ4 := by rw [e4]; exact nwA_lt l3
  have r4 : gP τ4 a 0 = some (gn σ) := by rw [e4]; exact (nwA_gP (by decide) l3).trans r3
  have m4 : gn σ < gn τ4 := by rw [e4]; exact nwA_lt m3
  have s4 : gl τ4 (gn σ) = some (.inr (0, 77)) := by rw [e4]; exact (nwA_gl m3).trans s3
  refine V_aload_n dX12_init_36 rfl ?_
  refine V_sipush dX12_init_37 (by decide) ?_
  refine V_newa (t := 0) (N := 200) dX12_init_40 List.mem_cons_self (by decide) (Nat.le_of_ble_eq_true rfl) (Nat.le_of_ble_eq_true rfl) ?_
  refine V_putr (ty := .array .int) dX12_init_42 sp_RX12_24 (by decide +kernel) rfl (by decide) ((addC_gl l4).trans h4) ?_
  obtain ⟨τ5, e5⟩ : ∃ τ, τ = nwA τ4 a 11 0 200 := ⟨_, rfl⟩
  refine V_sta (σ' := τ5) e5.symm ?_
  have h5 : gl τ5 a = some (.inl 11) := by rw [e5]; exact (nwA_gl l4).trans h4
  have l5 : a < gn τ5 := by rw [e5]; exact nwA_lt l4
  have r5 : gP τ5 a 0 = some (gn σ) := by rw [e5]; exact (nwA_gP (by decide) l4).trans r4
  have m5 : gn σ < gn τ5 := by rw [e5]; exact nwA_lt m4
  have s5 : gl τ5 (gn σ) = some (.inr (0, 77)) := by rw [e5]; exact (nwA_gl m4).trans s4
  refine V_aload_n dX12_init_45 rfl ?_
  refine V_bipush dX12_init_46 (by decide) ?_
  refine V_newa (t := 0) (N := 9) dX12_init_48 List.mem_cons_self (by decide) (Nat.le_of_ble_eq_true rfl) (Nat.le_of_ble_eq_true rfl) ?_
  refine V_putr (ty := .array .int) dX12_init_50 sp_RX12_27 (by decide +kernel) rfl (by decide) ((addC_gl l5).trans h5) ?_
  obtain ⟨τ6, e6⟩ : ∃ τ, τ = nwA τ5 a 13 0 9 := ⟨_, rfl⟩
  refine V_sta (σ' := τ6) e6.symm ?_
  have h6 : gl τ6 a = some (.inl 11) := by rw [e6]; exact (nwA_gl l5).trans h5
  have l6 : a < gn τ6 := by rw [e6]; exact nwA_lt l5
  have r6 : gP τ6 a 0 = some (gn σ) := by rw [e6]; exact (nwA_gP (by decide) l5).trans r5
  have m6 : gn σ < gn τ6 := by rw [e6]; exact nwA_lt m5
  have s6 : gl τ6 (gn σ) = some (.inr (0, 77)) := by rw [e6]; exact (nwA_gl m5).trans s5
  refine V_aload_n dX12_init_53 rfl ?_
  refine V_bipush dX12_init_54 (by decide) ?_
  refine V_newa (t := 0) (N := 9) dX12_init_56 List.mem_cons_self (by decide) (Nat.le_of_ble_eq_true rfl) (Nat.le_of_ble_eq_true rfl) ?_
  refine V_putr (ty := .array .int) dX12_init_58 sp_RX12_30 (by decide +kernel) rfl (by decide) ((addC_gl l6).trans h6) ?_
  obtain ⟨τ7, e7⟩ : ∃ τ, τ = nwA τ6 a 14 0 9 := ⟨_, rfl⟩
  refine V_sta (σ' := τ7) e7.symm ?_
  have h7 : gl τ7 a = some (.inl 11) := by rw [e7]; exact (nwA_gl l6).trans h6
  have l7 : a < gn τ7 := by rw [e7]; exact nwA_lt l6
  have r7 : gP τ7 a 0 = some (gn σ) := by rw [e7]; exact (nwA_gP (by decide) l6).trans r6
  have m7 : gn σ < gn τ7 := by rw [e7]; exact nwA_lt m6
  have s7 : gl τ7 (gn σ) = some (.inr (0, 77)) := by rw [e7]; exact (nwA_gl m6).trans s6
  refine V_aload_n dX12_init_61 rfl ?_
  refine V_bipush dX12_init_62 (by decide) ?_
  refine V_newa (t := 0) (N := 7) dX12_init_64 List.mem_cons_self (by decide) (Nat.le_of_ble_eq_true rfl) (Nat.le_of_ble_eq_true rfl) ?_
  refine V_putr (ty := .array .int) dX12_init_66 sp_RX12_33 (by decide +kernel) rfl (by decide) ((addC_gl l7).trans h7) ?_
  obtain ⟨τ8, e8⟩ : ∃ τ, τ = nwA τ7 a 18 0 7 := ⟨_, rfl⟩
  refine V_sta (σ' := τ8) e8.symm ?_
  have h8 : gl τ8 a = some (.inl 11) := by rw [e8]; exact (nwA_gl l7).trans h7
  have l8 : a < gn τ8 := by rw [e8]; exact nwA_lt l7
  have r8 : gP τ8 a 0 = some (gn σ) := by rw [e8]; exact (nwA_gP (by decide) l7).trans r7
  have m8 : gn σ < gn τ8 := by rw [e8]; exact nwA_lt m7
  have s8 : gl τ8 (gn σ) = some (.inr (0, 77)) := by rw [e8]; exact (nwA_gl m7).trans s7
  refine V_aload_n dX12_init_69 rfl ?_
  refine V_bipush dX12_init_70 (by decide) ?_
  refine V_newa (t := 0) (N := 7) dX12_init_72 List.mem_cons_self (by decide) (Nat.le_of_ble_eq_true rfl) (Nat.le_of_ble_eq_true rfl) ?_
  refine V_putr (ty := .array .int) dX12_init_74 sp_RX12_36 (by decide +kernel) rfl (by decide) ((addC_gl l8).trans h8) ?_
  obtain ⟨τ9, e9⟩ : ∃ τ, τ = nwA τ8 a 19 0 7 := ⟨_, rfl⟩
  refine V_sta (σ' := τ9) e9.symm ?_
  have h9 : gl τ9 a = some (.inl 11) := by rw [e9]; exact (nwA_gl l8).trans h8
  have l9 : a < gn τ9 := by rw [e9]; exact nwA_lt l8
  have r9 : gP τ9 a 0 = some (gn σ) := by rw [e9]; exact (nwA_gP (by decide) l8).trans r8
  have m9 : gn σ < gn τ9 := by rw [e9]; exact nwA_lt m8
  have s9 : gl τ9 (gn σ) = some (.inr (0, 77)) := by rw [e9]; exact (nwA_gl m8).trans s8
  refine V_aload_n dX12_init_77 rfl ?_
  refine V_bipush dX12_init_78 (by decide) ?_
  refine V_newa (t := 0) (N := 6) dX12_init_80 List.mem_cons_self (by decide) (Nat.le_of_ble_eq_true rfl) (Nat.le_of_ble_eq_true rfl) ?_
  refine V_putr (ty := .array .int) dX12_init_82 sp_RX12_39 (by decide +kernel) rfl (by decide) ((addC_gl l9).trans h9) ?_
  obtain ⟨τ10, e10⟩ : ∃ τ, τ = nwA τ9 a 24 0 6 := ⟨_, rfl⟩
  refine V_sta (σ' := τ10) e10.symm ?_
  have h10 : gl τ10 a = some (.inl 11) := by rw [e10]; exact (nwA_gl l9).trans h9
  have l10 : a < gn τ10 := by rw [e10]; exact nwA_lt l9
  have r10 : gP τ10 a 0 = some (gn σ) := by rw [e10]; exact (nwA_gP (by decide) l9).trans r9
  have m10 : gn σ < gn τ10 := by rw [e10]; exact nwA_lt m9
  have s10 : gl τ10 (gn σ) = some (.inr (0, 77)) := by rw [e10]; exact (nwA_gl m9).trans s9
  refine V_aload_n dX12_init_85 rfl ?_
  refine V_bipush dX12_init_86 (by decide) ?_
  refine V_newa (t := 0) (N := 6) dX12_init_88 List.mem_cons_self (by decide) (Nat.le_of_ble_eq_true rfl) (Nat.le_of_ble_eq_true rfl) ?_
  refine V_putr (ty := .array .int) dX12_init_90 sp_RX12_42 (by decide +kernel) rfl (by decide) ((addC_gl l10).trans h10) ?_
  obtain ⟨τ11, e11⟩ : ∃ τ, τ = nwA τ10 a 25 0 6 := ⟨_, rfl⟩
  refine V_sta (σ' := τ11) e11.symm ?_
  have h11 : gl τ11 a = some (.inl 11) := by rw [e11]; exact (nwA_gl l10).trans h10
  have l11 : a < gn τ11 := by rw [e11]; exact nwA_lt l10
  have r11 : gP τ11 a 0 = some (gn σ) := by rw [e11]; exact (nwA_gP (by decide) l10).trans r10
  have m11 : gn σ < gn τ11 := by rw [e11]; exact nwA_lt m10
  have s11 : gl τ11 (gn σ) = some (.inr (0, 77)) := by rw [e11]; exact (nwA_gl m10).trans s10
  refine V_aload_n dX12_init_93 rfl ?_
  refine V_bipush dX12_init_94 (by decide) ?_
  refine V_newa (t := 0) (N := 6) dX12_init_96 List.mem_cons_self (by decide) (Nat.le_of_ble_eq_true rfl) (Nat.le_of_ble_eq_true rfl) ?_
  refine V_putr (ty := .array .int) dX12_init_98 sp_RX12_45 (by decide +kernel) rfl (by decide) ((addC_gl l11).trans h11) ?_
  obtain ⟨τ12, e12⟩ : ∃ τ, τ = nwA τ11 a 26 0 6 := ⟨_, rfl⟩
  refine V_sta (σ' := τ12) e12.symm ?_
  have h12 : gl τ12 a = some (.inl 11) := by rw [e12]; exact (nwA_gl l11).trans h11
  have l12 : a < gn τ12 := by rw [e12]; exact nwA_lt l11
  have r12 : gP τ12 a 0 = some (gn σ) := by rw [e12]; exact (nwA_gP (by decide) l11).trans r11
  have m12 : gn σ < gn τ12 := by rw [e12]; exact nwA_lt m11
  have s12 : gl τ12 (gn σ) = some (.inr (0, 77)) := by rw [e12]; exact (nwA_gl m11).trans s11
  refine V_aload_n dX12_init_101 rfl ?_
  refine V_bipush dX12_init_102 (by decide) ?_
  refine V_newa (t := 0) (N := 6) dX12_init_104 List.mem_cons_self (by decide) (Nat.le_of_ble_eq_true rfl) (Nat.le_of_ble_eq_true rfl) ?_
  refine V_putr (ty := .array .int) dX12_init_106 sp_RX12_48 (by decide +kernel) rfl (by decide) ((addC_gl l12).trans h12) ?_
  obtain ⟨τ13, e13⟩ : ∃ τ, τ = nwA τ12 a 27 0 6 := ⟨_, rfl⟩
  refine V_sta (σ' := τ13) e13.symm ?_
  have h13 : gl τ13 a = some (.inl 11) := by rw [e13]; exact (nwA_gl l12).trans h12
  have l13 : a < gn τ13 := by rw [e13]; exact nwA_lt l12
  have r13 : gP τ13 a 0 = some (gn σ) := by rw [e13]; exact (nwA_gP (by decide) l12).trans r12
  have m13 : gn σ < gn τ13 := by rw [e13]; exact nwA_lt m12
  have s13 : gl τ13 (gn σ) = some (.inr (0, 77)) := by rw [e13]; exact (nwA_gl m12).trans s12
  refine V_aload_n dX12_init_109 rfl ?_
  refine V_sipush dX12_init_110 (by decide) ?_
  refine V_newa (t := 1) (N := 180) dX12_init_113 (List.mem_cons_of_mem _ List.mem_cons_self) (by decide) (Nat.le_of_ble_eq_true rfl) (Nat.le_of_ble_eq_true rfl) ?_
  refine V_putr (ty := .array .long) dX12_init_115 sp_RX12_51 (by decide +kernel) rfl (by decide) ((addC_gl l13).trans h13) ?_
  obtain ⟨τ14, e14⟩ : ∃ τ, τ = nwA τ13 a 28 1 180 := ⟨_, rfl⟩
  refine V_sta (σ' := τ14) e14.symm ?_
  have h14 : gl τ14 a = some (.inl 11) := by rw [e14]; exact (nwA_gl l13).trans h13
  have l14 : a < gn τ14 := by rw [e14]; exact nwA_lt l13
  have r14 : gP τ14 a 0 = some (gn σ) := by rw [e14]; exact (nwA_gP (by decide) l13).trans r13
  have m14 : gn σ < gn τ14 := by rw [e14]; exact nwA_lt m13
  have s14 : gl τ14 (gn σ) = some (.inr (0, 77)) := by rw [e14]; exact (nwA_gl m13).trans s13
  refine V_aload_n dX12_init_118 rfl ?_
  refine V_bipush dX12_init_119 (by decide) ?_
  refine V_newa (t := 1) (N := 30) dX12_init_121 (List.mem_cons_of_mem _ List.mem_cons_self) (by decide) (Nat.le_of_ble_eq_true rfl) (Nat.le_of_ble_eq_true rfl) ?_
  refine V_putr (ty := .array .long) dX12_init_123 sp_RX12_55 (by decide +kernel) rfl (by decide) ((addC_gl l14).trans h14) ?_
  obtain ⟨τ15, e15⟩ : ∃ τ, τ = nwA τ14 a 29 1 30 := ⟨_, rfl⟩
  refine V_sta (σ' := τ15) e15.symm ?_
  have h15 : gl τ15 a = some (.inl 11) := by rw [e15]; exact (nwA_gl l14).trans h14
  have l15 : a < gn τ15 := by rw [e15]; exact nwA_lt l14
  have r15 : gP τ15 a 0 = some (gn σ) := by rw [e15]; exact (nwA_gP (by decide) l14).trans r14
  have m15 : gn σ < gn τ15 := by rw [e15]; exact nwA_lt m14
  have s15 : gl τ15 (gn σ) = some (.inr (0, 77)) := by rw [e15]; exact (nwA_gl m14).trans s14
  refine V_aload_n dX12_init_126 rfl ?_
  refine V_getfr dX12_init_127 sf_RX12_9 (by decide) h15 r15 ?_
  refine V_iconst dX12_init_130 ?_
  refine V_bipush dX12_init_131 (by decide) ?_
  refine V_iast dX12_init_133 s15 (by decide) ?_
  refine V_aload_n dX12_init_134 rfl ?_
  refine V_getfr dX12_init_135 sf_RX12_9 (by decide) h15 r15 ?_
  refine V_iconst dX12_init_138 ?_
  refine V_iconst dX12_init_139 ?_
  refine V_iast dX12_init_140 s15 (by decide) ?_
  refine V_aload_n dX12_init_141 rfl ?_
  refine V_getfr dX12_init_142 sf_RX12_9 (by decide) h15 r15 ?_
  refine V_iconst dX12_init_145 ?_
  refine V_iconst dX12_init_146 ?_
  refine V_iast dX12_init_147 s15 (by decide) ?_
  refine V_aload_n dX12_init_148 rfl ?_
  refine V_getfr dX12_init_149 sf_RX12_9 (by decide) h15 r15 ?_
  refine V_iconst dX12_init_152 ?_
  refine V_iconst dX12_init_153 ?_
  refine V_iast dX12_init_154 s15 (by decide) ?_
  refine V_vret dX12_init_155 rfl (Nat.le_of_ble_eq_true rfl) (Nat.le_of_ble_eq_true rfl) ?_
  refine ⟨rfl, ?_⟩
  unfold i12S
  rw [← e1, ← e2, ← e3, ← e4, ← e5, ← e6, ← e7, ← e8, ← e9, ← e10, ← e11, ← e12, ← e13, ← e14, ← e15]
  rfl