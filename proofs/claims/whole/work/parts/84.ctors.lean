/-! what the constructors lay -/
def nwA (σ : St) (a f t N : Nat) : St := setP (addC σ (.inr (t, N))) a (up1 (gP (addC σ (.inr (t, N))) a) f (some (gn σ)))
def nwM (σ : St) (a f N K : Nat) : St := setP (addM σ N K) a (up1 (gP (addM σ N K) a) f (some (gn σ)))
def nwR (σ : St) (a f : Nat) : St := setP (setG (setG (setG (setG (addC σ (.inr (0, 4))) (gn σ) 0 100) (gn σ) 1 4) (gn σ) 2 3) (gn σ) 3 2) a (up1 (gP (addC σ (.inr (0, 4))) a) f (some (gn σ)))
def nwO (σ : St) (a f ci : Nat) (I : St → Nat → St) : St := setP (I (addC σ (.inl ci)) (gn σ)) a (up1 (gP (I (addC σ (.inl ci)) (gn σ)) a) f (some (gn σ)))
theorem addC_gl {σ : St} {s : Sh} {c : Nat} (h : c < gn σ) : gl (addC σ s) c = gl σ c := up1_ne _ (by omega) _
theorem addM_gl {σ : St} {N K c : Nat} (h : c < gn σ) : gl (addM σ N K) c = gl σ c := (if_neg (by omega)).trans (if_neg (by omega))
theorem nwA_gl {σ : St} {a f t N c : Nat} (h : c < gn σ) : gl (nwA σ a f t N) c = gl σ c := up1_ne _ (by omega) _
theorem nwR_gl {σ : St} {a f c : Nat} (h : c < gn σ) : gl (nwR σ a f) c = gl σ c := up1_ne _ (by omega) _
theorem nwM_gl {σ : St} {a f N K c : Nat} (h : c < gn σ) : gl (nwM σ a f N K) c = gl σ c := addM_gl h
theorem nwA_lt {σ : St} {a f t N c : Nat} (h : c < gn σ) : c < gn (nwA σ a f t N) := Nat.lt_succ_of_lt h
theorem nwR_lt {σ : St} {a f c : Nat} (h : c < gn σ) : c < gn (nwR σ a f) := Nat.lt_succ_of_lt h
theorem nwM_lt {σ : St} {a f N K c : Nat} (h : c < gn σ) : c < gn (nwM σ a f N K) := (show c < gn σ + 1 + N by omega)
def i7S (σ : St) (a : Nat) : St := nwR (nwA (nwA (nwA σ a 0 3 9) a 1 4 6) a 2 5 7) a 3
theorem i7S_gl {σ : St} {a c : Nat} (h0 : c < gn σ) : gl (i7S σ a) c = gl σ c := by
  have h1 := nwA_lt (a := a) (f := 0) (t := 3) (N := 9) h0
  have h2 := nwA_lt (a := a) (f := 1) (t := 4) (N := 6) h1
  have h3 := nwA_lt (a := a) (f := 2) (t := 5) (N := 7) h2
  exact (nwR_gl h3).trans ((nwA_gl h2).trans ((nwA_gl h1).trans ((nwA_gl h0))))
theorem c_i7 (g : Gl) (σ : St) (a : Nat) (h0 : gl σ a = some (.inl 7)) (l0 : a < gn σ) : Ct g mX7_init 1 4 26 [vq (some a)] σ (rV (i7S σ a)) := by
  refine Ct.of (by decide +kernel) (Nat.le_of_ble_eq_true rfl) ?_
  refine V_aload_n dX7_init_0 rfl ?_
  refine V_objInit dX7_init_1 so_RX7_3 (by decide) (Nat.le_of_ble_eq_true rfl) ?_
  refine V_aload_n dX7_init_4 rfl ?_
  refine V_bipush dX7_init_5 (by decide) ?_
  refine V_anew (E := RX6) (t := 3) (N := 9) dX7_init_7 List.mem_cons_self sl_RX7_9 (by decide) (Nat.le_of_ble_eq_true rfl) (Nat.le_of_ble_eq_true rfl) ?_
  refine V_putr (ty := .array (.object "HoopYard$Stave")) dX7_init_10 sp_RX7_11 (by decide +kernel) rfl (by decide) ((addC_gl l0).trans h0) ?_
  refine V_sta (σ' := nwA σ a 0 3 9) rfl ?_
  have h1 : gl (nwA σ a 0 3 9) a = some (.inl 7) := (nwA_gl l0).trans h0
  have l1 : a < gn (nwA σ a 0 3 9) := nwA_lt l0
  refine V_aload_n dX7_init_13 rfl ?_
  refine V_bipush dX7_init_14 (by decide) ?_
  refine V_anew (E := RX3) (t := 4) (N := 6) dX7_init_16 (List.mem_cons_of_mem _ List.mem_cons_self) sl_RX7_17 (by decide) (Nat.le_of_ble_eq_true rfl) (Nat.le_of_ble_eq_true rfl) ?_
  refine V_putr (ty := .array (.object "HoopYard$Hoop")) dX7_init_19 sp_RX7_19 (by decide +kernel) rfl (by decide) ((addC_gl l1).trans h1) ?_
  refine V_sta (σ' := nwA (nwA σ a 0 3 9) a 1 4 6) rfl ?_
  have h2 : gl (nwA (nwA σ a 0 3 9) a 1 4 6) a = some (.inl 7) := (nwA_gl l1).trans h1
  have l2 : a < gn (nwA (nwA σ a 0 3 9) a 1 4 6) := nwA_lt l1
  refine V_aload_n dX7_init_22 rfl ?_
  refine V_bipush dX7_init_23 (by decide) ?_
  refine V_anew (E := RX0) (t := 5) (N := 7) dX7_init_25 (List.mem_cons_of_mem _ (List.mem_cons_of_mem _ List.mem_cons_self)) sl_RX7_23 (by decide) (Nat.le_of_ble_eq_true rfl) (Nat.le_of_ble_eq_true rfl) ?_
  refine V_putr (ty := .array (.object "HoopYard$Board")) dX7_init_28 sp_RX7_25 (by decide +kernel) rfl (by decide) ((addC_gl l2).trans h2) ?_
  refine V_sta (σ' := nwA (nwA (nwA σ a 0 3 9) a 1 4 6) a 2 5 7) rfl ?_
  have h3 : gl (nwA (nwA (nwA σ a 0 3 9) a 1 4 6) a 2 5 7) a = some (.inl 7) := (nwA_gl l2).trans h2
  have l3 : a < gn (nwA (nwA (nwA σ a 0 3 9) a 1 4 6) a 2 5 7) := nwA_lt l2
  refine V_aload_n dX7_init_31 rfl ?_
  refine V_iconst dX7_init_32 ?_
  refine V_newa (t := 0) (N := 4) dX7_init_33 List.mem_cons_self (by decide) (Nat.le_of_ble_eq_true rfl) (Nat.le_of_ble_eq_true rfl) ?_
  refine V_dup dX7_init_35 rfl ?_
  refine V_iconst dX7_init_36 ?_
  refine V_bipush dX7_init_37 (by decide) ?_
  refine V_iast dX7_init_39 (up1_is _ _ _) (by decide) ?_
  refine V_dup dX7_init_40 rfl ?_
  refine V_iconst dX7_init_41 ?_
  refine V_iconst dX7_init_42 ?_
  refine V_iast dX7_init_43 (up1_is _ _ _) (by decide) ?_
  refine V_dup dX7_init_44 rfl ?_
  refine V_iconst dX7_init_45 ?_
  refine V_iconst dX7_init_46 ?_
  refine V_iast dX7_init_47 (up1_is _ _ _) (by decide) ?_
  refine V_dup dX7_init_48 rfl ?_
  refine V_iconst dX7_init_49 ?_
  refine V_iconst dX7_init_50 ?_
  refine V_iast dX7_init_51 (up1_is _ _ _) (by decide) ?_
  refine V_putr (ty := .array .int) dX7_init_52 sp_RX7_29 (by decide +kernel) rfl (by decide) ((addC_gl l3).trans h3) ?_
  refine V_sta (σ' := nwR (nwA (nwA (nwA σ a 0 3 9) a 1 4 6) a 2 5 7) a 3) rfl ?_
  have h4 : gl (nwR (nwA (nwA (nwA σ a 0 3 9) a 1 4 6) a 2 5 7) a 3) a = some (.inl 7) := (nwR_gl l3).trans h3
  have l4 : a < gn (nwR (nwA (nwA (nwA σ a 0 3 9) a 1 4 6) a 2 5 7) a 3) := nwR_lt l3
  refine V_vret dX7_init_55 rfl (Nat.le_of_ble_eq_true rfl) (Nat.le_of_ble_eq_true rfl) ?_
  exact ⟨rfl, rfl⟩
def i8S (σ : St) (a : Nat) : St := nwM (nwA (nwA (nwA σ a 0 2 80) a 1 0 27) a 2 0 27) a 3 27 4
theorem i8S_gl {σ : St} {a c : Nat} (h0 : c < gn σ) : gl (i8S σ a) c = gl σ c := by
  have h1 := nwA_lt (a := a) (f := 0) (t := 2) (N := 80) h0
  have h2 := nwA_lt (a := a) (f := 1) (t := 0) (N := 27) h1
  have h3 := nwA_lt (a := a) (f := 2) (t := 0) (N := 27) h2
  exact (nwM_gl h3).trans ((nwA_gl h2).trans ((nwA_gl h1).trans ((nwA_gl h0))))
theorem c_i8 (g : Gl) (σ : St) (a : Nat) (h0 : gl σ a = some (.inl 8)) (l0 : a < gn σ) : Ct g mX8_init 1 31 269 [vq (some a)] σ (rV (i8S σ a)) := by
  refine Ct.of (by decide +kernel) (Nat.le_of_ble_eq_true rfl) ?_
  refine V_aload_n dX8_init_0 rfl ?_
  refine V_objInit dX8_init_1 so_RX8_3 (by decide) (Nat.le_of_ble_eq_true rfl) ?_
  refine V_aload_n dX8_init_4 rfl ?_
  refine V_bipush dX8_init_5 (by decide) ?_
  refine V_newa (t := 2) (N := 80) dX8_init_7 (List.mem_cons_of_mem _ (List.mem_cons_of_mem _ List.mem_cons_self)) (by decide) (Nat.le_of_ble_eq_true rfl) (Nat.le_of_ble_eq_true rfl) ?_
  refine V_putr (ty := .array .byte) dX8_init_9 sp_RX8_9 (by decide +kernel) rfl (by decide) ((addC_gl l0).trans h0) ?_
  refine V_sta (σ' := nwA σ a 0 2 80) rfl ?_
  have h1 : gl (nwA σ a 0 2 80) a = some (.inl 8) := (nwA_gl l0).trans h0
  have l1 : a < gn (nwA σ a 0 2 80) := nwA_lt l0
  refine V_aload_n dX8_init_12 rfl ?_
  refine V_bipush dX8_init_13 (by decide) ?_
  refine V_newa (t := 0) (N := 27) dX8_init_15 List.mem_cons_self (by decide) (Nat.le_of_ble_eq_true rfl) (Nat.le_of_ble_eq_true rfl) ?_
  refine V_putr (ty := .array .int) dX8_init_17 sp_RX8_15 (by decide +kernel) rfl (by decide) ((addC_gl l1).trans h1) ?_
  refine V_sta (σ' := nwA (nwA σ a 0 2 80) a 1 0 27) rfl ?_
  have h2 : gl (nwA (nwA σ a 0 2 80) a 1 0 27) a = some (.inl 8) := (nwA_gl l1).trans h1
  have l2 : a < gn (nwA (nwA σ a 0 2 80) a 1 0 27) := nwA_lt l1
  refine V_aload_n dX8_init_20 rfl ?_
  refine V_bipush dX8_init_21 (by decide) ?_
  refine V_newa (t := 0) (N := 27) dX8_init_23 List.mem_cons_self (by decide) (Nat.le_of_ble_eq_true rfl) (Nat.le_of_ble_eq_true rfl) ?_
  refine V_putr (ty := .array .int) dX8_init_25 sp_RX8_19 (by decide +kernel) rfl (by decide) ((addC_gl l2).trans h2) ?_
  refine V_sta (σ' := nwA (nwA (nwA σ a 0 2 80) a 1 0 27) a 2 0 27) rfl ?_
  have h3 : gl (nwA (nwA (nwA σ a 0 2 80) a 1 0 27) a 2 0 27) a = some (.inl 8) := (nwA_gl l2).trans h2
  have l3 : a < gn (nwA (nwA (nwA σ a 0 2 80) a 1 0 27) a 2 0 27) := nwA_lt l2
  refine V_aload_n dX8_init_28 rfl ?_
  refine V_bipush dX8_init_29 (by decide) ?_
  refine V_iconst dX8_init_31 ?_
  refine V_mnew (N := 27) (K := 4) dX8_init_32 sl_RX8_22 (by decide) (by decide) (Nat.le_of_ble_eq_true rfl) (Nat.le_of_ble_eq_true rfl) ?_
  refine V_putr (ty := .array (.array .int)) dX8_init_36 sp_RX8_24 (by decide +kernel) rfl (by decide) ((addM_gl l3).trans h3) ?_
  refine V_sta (σ' := nwM (nwA (nwA (nwA σ a 0 2 80) a 1 0 27) a 2 0 27) a 3 27 4) rfl ?_
  have h4 : gl (nwM (nwA (nwA (nwA σ a 0 2 80) a 1 0 27) a 2 0 27) a 3 27 4) a = some (.inl 8) := (nwM_gl l3).trans h3
  have l4 : a < gn (nwM (nwA (nwA (nwA σ a 0 2 80) a 1 0 27) a 2 0 27) a 3 27 4) := nwM_lt l3
  refine V_vret dX8_init_39 rfl (Nat.le_of_ble_eq_true rfl) (Nat.le_of_ble_eq_true rfl) ?_
  exact ⟨rfl, rfl⟩
def i5S (σ : St) (a : Nat) : St := nwA (nwA σ a 0 0 512) a 1 0 512
theorem i5S_gl {σ : St} {a c : Nat} (h0 : c < gn σ) : gl (i5S σ a) c = gl σ c := by
  have h1 := nwA_lt (a := a) (f := 0) (t := 0) (N := 512) h0
  exact (nwA_gl h1).trans ((nwA_gl h0))
theorem c_i5 (g : Gl) (σ : St) (a : Nat) (h0 : gl σ a = some (.inl 5)) (l0 : a < gn σ) : Ct g mX5_init 1 2 1024 [vq (some a)] σ (rV (i5S σ a)) := by
  refine Ct.of (by decide +kernel) (Nat.le_of_ble_eq_true rfl) ?_
  refine V_aload_n dX5_init_0 rfl ?_
  refine V_objInit dX5_init_1 so_RX5_3 (by decide) (Nat.le_of_ble_eq_true rfl) ?_
  refine V_aload_n dX5_init_4 rfl ?_
  refine V_sipush dX5_init_5 (by decide) ?_
  refine V_newa (t := 0) (N := 512) dX5_init_8 List.mem_cons_self (by decide) (Nat.le_of_ble_eq_true rfl) (Nat.le_of_ble_eq_true rfl) ?_
  refine V_putr (ty := .array .int) dX5_init_10 sp_RX5_9 (by decide +kernel) rfl (by decide) ((addC_gl l0).trans h0) ?_
  refine V_sta (σ' := nwA σ a 0 0 512) rfl ?_
  have h1 : gl (nwA σ a 0 0 512) a = some (.inl 5) := (nwA_gl l0).trans h0
  have l1 : a < gn (nwA σ a 0 0 512) := nwA_lt l0
  refine V_aload_n dX5_init_13 rfl ?_
  refine V_sipush dX5_init_14 (by decide) ?_
  refine V_newa (t := 0) (N := 512) dX5_init_17 List.mem_cons_self (by decide) (Nat.le_of_ble_eq_true rfl) (Nat.le_of_ble_eq_true rfl) ?_
  refine V_putr (ty := .array .int) dX5_init_19 sp_RX5_15 (by decide +kernel) rfl (by decide) ((addC_gl l1).trans h1) ?_
  refine V_sta (σ' := nwA (nwA σ a 0 0 512) a 1 0 512) rfl ?_
  have h2 : gl (nwA (nwA σ a 0 0 512) a 1 0 512) a = some (.inl 5) := (nwA_gl l1).trans h1
  have l2 : a < gn (nwA (nwA σ a 0 0 512) a 1 0 512) := nwA_lt l1
  refine V_vret dX5_init_22 rfl (Nat.le_of_ble_eq_true rfl) (Nat.le_of_ble_eq_true rfl) ?_
  exact ⟨rfl, rfl⟩
def i4S (σ : St) (a : Nat) : St := nwA (nwM (nwA (nwA (nwA σ a 0 0 8) a 1 0 8) a 2 0 8) a 3 8 8) a 4 0 1024
theorem i4S_gl {σ : St} {a c : Nat} (h0 : c < gn σ) : gl (i4S σ a) c = gl σ c := by
  have h1 := nwA_lt (a := a) (f := 0) (t := 0) (N := 8) h0
  have h2 := nwA_lt (a := a) (f := 1) (t := 0) (N := 8) h1
  have h3 := nwA_lt (a := a) (f := 2) (t := 0) (N := 8) h2
  have h4 := nwM_lt (a := a) (f := 3) (N := 8) (K := 8) h3
  exact (nwA_gl h4).trans ((nwM_gl h3).trans ((nwA_gl h2).trans ((nwA_gl h1).trans ((nwA_gl h0)))))
theorem c_i4 (g : Gl) (σ : St) (a : Nat) (h0 : gl σ a = some (.inl 4)) (l0 : a < gn σ) : Ct g mX4_init 1 13 1120 [vq (some a)] σ (rV (i4S σ a)) := by
  refine Ct.of (by decide +kernel) (Nat.le_of_ble_eq_true rfl) ?_
  refine V_aload_n dX4_init_0 rfl ?_
  refine V_objInit dX4_init_1 so_RX4_3 (by decide) (Nat.le_of_ble_eq_true rfl) ?_
  refine V_aload_n dX4_init_4 rfl ?_
  refine V_bipush dX4_init_5 (by decide) ?_
  refine V_newa (t := 0) (N := 8) dX4_init_7 List.mem_cons_self (by decide) (Nat.le_of_ble_eq_true rfl) (Nat.le_of_ble_eq_true rfl) ?_
  refine V_putr (ty := .array .int) dX4_init_9 sp_RX4_9 (by decide +kernel) rfl (by decide) ((addC_gl l0).trans h0) ?_
  refine V_sta (σ' := nwA σ a 0 0 8) rfl ?_
  have h1 : gl (nwA σ a 0 0 8) a = some (.inl 4) := (nwA_gl l0).trans h0
  have l1 : a < gn (nwA σ a 0 0 8) := nwA_lt l0
  refine V_aload_n dX4_init_12 rfl ?_
  refine V_bipush dX4_init_13 (by decide) ?_
  refine V_newa (t := 0) (N := 8) dX4_init_15 List.mem_cons_self (by decide) (Nat.le_of_ble_eq_true rfl) (Nat.le_of_ble_eq_true rfl) ?_
  refine V_putr (ty := .array .int) dX4_init_17 sp_RX4_15 (by decide +kernel) rfl (by decide) ((addC_gl l1).trans h1) ?_
  refine V_sta (σ' := nwA (nwA σ a 0 0 8) a 1 0 8) rfl ?_
  have h2 : gl (nwA (nwA σ a 0 0 8) a 1 0 8) a = some (.inl 4) := (nwA_gl l1).trans h1
  have l2 : a < gn (nwA (nwA σ a 0 0 8) a 1 0 8) := nwA_lt l1
  refine V_aload_n dX4_init_20 rfl ?_
  refine V_bipush dX4_init_21 (by decide) ?_
  refine V_newa (t := 0) (N := 8) dX4_init_23 List.mem_cons_self (by decide) (Nat.le_of_ble_eq_true rfl) (Nat.le_of_ble_eq_true rfl) ?_
  refine V_putr (ty := .array .int) dX4_init_25 sp_RX4_18 (by decide +kernel) rfl (by decide) ((addC_gl l2).trans h2) ?_
  refine V_sta (σ' := nwA (nwA (nwA σ a 0 0 8) a 1 0 8) a 2 0 8) rfl ?_
  have h3 : gl (nwA (nwA (nwA σ a 0 0 8) a 1 0 8) a 2 0 8) a = some (.inl 4) := (nwA_gl l2).trans h2
  have l3 : a < gn (nwA (nwA (nwA σ a 0 0 8) a 1 0 8) a 2 0 8) := nwA_lt l2
  refine V_aload_n dX4_init_28 rfl ?_
  refine V_bipush dX4_init_29 (by decide) ?_
  refine V_bipush dX4_init_31 (by decide) ?_
  refine V_mnew (N := 8) (K := 8) dX4_init_33 sl_RX4_21 (by decide) (by decide) (Nat.le_of_ble_eq_true rfl) (Nat.le_of_ble_eq_true rfl) ?_
  refine V_putr (ty := .array (.array .int)) dX4_init_37 sp_RX4_23 (by decide +kernel) rfl (by decide) ((addM_gl l3).trans h3) ?_
  refine V_sta (σ' := nwM (nwA (nwA (nwA σ a 0 0 8) a 1 0 8) a 2 0 8) a 3 8 8) rfl ?_
  have h4 : gl (nwM (nwA (nwA (nwA σ a 0 0 8) a 1 0 8) a 2 0 8) a 3 8 8) a = some (.inl 4) := (nwM_gl l3).trans h3
  have l4 : a < gn (nwM (nwA (nwA (nwA σ a 0 0 8) a 1 0 8) a 2 0 8) a 3 8 8) := nwM_lt l3
  refine V_aload_n dX4_init_40 rfl ?_
  refine V_sipush dX4_init_41 (by decide) ?_
  refine V_newa (t := 0) (N := 1024) dX4_init_44 List.mem_cons_self (by decide) (Nat.le_of_ble_eq_true rfl) (Nat.le_of_ble_eq_true rfl) ?_
  refine V_putr (ty := .array .int) dX4_init_46 sp_RX4_26 (by decide +kernel) rfl (by decide) ((addC_gl l4).trans h4) ?_
  refine V_sta (σ' := nwA (nwM (nwA (nwA (nwA σ a 0 0 8) a 1 0 8) a 2 0 8) a 3 8 8) a 4 0 1024) rfl ?_
  have h5 : gl (nwA (nwM (nwA (nwA (nwA σ a 0 0 8) a 1 0 8) a 2 0 8) a 3 8 8) a 4 0 1024) a = some (.inl 4) := (nwA_gl l4).trans h4
  have l5 : a < gn (nwA (nwM (nwA (nwA (nwA σ a 0 0 8) a 1 0 8) a 2 0 8) a 3 8 8) a 4 0 1024) := nwA_lt l4
  refine V_vret dX4_init_49 rfl (Nat.le_of_ble_eq_true rfl) (Nat.le_of_ble_eq_true rfl) ?_
  exact ⟨rfl, rfl⟩
def i1S (σ : St) (a : Nat) : St := nwA (nwA σ a 0 0 6) a 1 0 9
theorem i1S_gl {σ : St} {a c : Nat} (h0 : c < gn σ) : gl (i1S σ a) c = gl σ c := by
  have h1 := nwA_lt (a := a) (f := 0) (t := 0) (N := 6) h0
  exact (nwA_gl h1).trans ((nwA_gl h0))
theorem c_i1 (g : Gl) (σ : St) (a : Nat) (h0 : gl σ a = some (.inl 1)) (l0 : a < gn σ) : Ct g mX1_init 1 2 15 [vq (some a)] σ (rV (i1S σ a)) := by
  refine Ct.of (by decide +kernel) (Nat.le_of_ble_eq_true rfl) ?_
  refine V_aload_n dX1_init_0 rfl ?_
  refine V_objInit dX1_init_1 so_RX1_3 (by decide) (Nat.le_of_ble_eq_true rfl) ?_
  refine V_aload_n dX1_init_4 rfl ?_
  refine V_bipush dX1_init_5 (by decide) ?_
  refine V_newa (t := 0) (N := 6) dX1_init_7 List.mem_cons_self (by decide) (Nat.le_of_ble_eq_true rfl) (Nat.le_of_ble_eq_true rfl) ?_
  refine V_putr (ty := .array .int) dX1_init_9 sp_RX1_9 (by decide +kernel) rfl (by decide) ((addC_gl l0).trans h0) ?_
  refine V_sta (σ' := nwA σ a 0 0 6) rfl ?_
  have h1 : gl (nwA σ a 0 0 6) a = some (.inl 1) := (nwA_gl l0).trans h0
  have l1 : a < gn (nwA σ a 0 0 6) := nwA_lt l0
  refine V_aload_n dX1_init_12 rfl ?_
  refine V_bipush dX1_init_13 (by decide) ?_
  refine V_newa (t := 0) (N := 9) dX1_init_15 List.mem_cons_self (by decide) (Nat.le_of_ble_eq_true rfl) (Nat.le_of_ble_eq_true rfl) ?_
  refine V_putr (ty := .array .int) dX1_init_17 sp_RX1_15 (by decide +kernel) rfl (by decide) ((addC_gl l1).trans h1) ?_
  refine V_sta (σ' := nwA (nwA σ a 0 0 6) a 1 0 9) rfl ?_
  have h2 : gl (nwA (nwA σ a 0 0 6) a 1 0 9) a = some (.inl 1) := (nwA_gl l1).trans h1
  have l2 : a < gn (nwA (nwA σ a 0 0 6) a 1 0 9) := nwA_lt l1
  refine V_vret dX1_init_20 rfl (Nat.le_of_ble_eq_true rfl) (Nat.le_of_ble_eq_true rfl) ?_
  exact ⟨rfl, rfl⟩
def i2S (σ : St) (a : Nat) : St := nwA (nwA (nwA (nwA σ a 0 0 7) a 1 0 7) a 2 0 128) a 3 0 128
theorem i2S_gl {σ : St} {a c : Nat} (h0 : c < gn σ) : gl (i2S σ a) c = gl σ c := by
  have h1 := nwA_lt (a := a) (f := 0) (t := 0) (N := 7) h0
  have h2 := nwA_lt (a := a) (f := 1) (t := 0) (N := 7) h1
  have h3 := nwA_lt (a := a) (f := 2) (t := 0) (N := 128) h2
  exact (nwA_gl h3).trans ((nwA_gl h2).trans ((nwA_gl h1).trans ((nwA_gl h0))))
theorem c_i2 (g : Gl) (σ : St) (a : Nat) (h0 : gl σ a = some (.inl 2)) (l0 : a < gn σ) : Ct g mX2_init 1 4 270 [vq (some a)] σ (rV (i2S σ a)) := by
  refine Ct.of (by decide +kernel) (Nat.le_of_ble_eq_true rfl) ?_
  refine V_aload_n dX2_init_0 rfl ?_
  refine V_objInit dX2_init_1 so_RX2_3 (by decide) (Nat.le_of_ble_eq_true rfl) ?_
  refine V_aload_n dX2_init_4 rfl ?_
  refine V_bipush dX2_init_5 (by decide) ?_
  refine V_newa (t := 0) (N := 7) dX2_init_7 List.mem_cons_self (by decide) (Nat.le_of_ble_eq_true rfl) (Nat.le_of_ble_eq_true rfl) ?_
  refine V_putr (ty := .array .int) dX2_init_9 sp_RX2_9 (by decide +kernel) rfl (by decide) ((addC_gl l0).trans h0) ?_
  refine V_sta (σ' := nwA σ a 0 0 7) rfl ?_
  have h1 : gl (nwA σ a 0 0 7) a = some (.inl 2) := (nwA_gl l0).trans h0
  have l1 : a < gn (nwA σ a 0 0 7) := nwA_lt l0
  refine V_aload_n dX2_init_12 rfl ?_
  refine V_bipush dX2_init_13 (by decide) ?_
  refine V_newa (t := 0) (N := 7) dX2_init_15 List.mem_cons_self (by decide) (Nat.le_of_ble_eq_true rfl) (Nat.le_of_ble_eq_true rfl) ?_
  refine V_putr (ty := .array .int) dX2_init_17 sp_RX2_15 (by decide +kernel) rfl (by decide) ((addC_gl l1).trans h1) ?_
  refine V_sta (σ' := nwA (nwA σ a 0 0 7) a 1 0 7) rfl ?_
  have h2 : gl (nwA (nwA σ a 0 0 7) a 1 0 7) a = some (.inl 2) := (nwA_gl l1).trans h1
  have l2 : a < gn (nwA (nwA σ a 0 0 7) a 1 0 7) := nwA_lt l1
  refine V_aload_n dX2_init_20 rfl ?_
  refine V_sipush dX2_init_21 (by decide) ?_
  refine V_newa (t := 0) (N := 128) dX2_init_24 List.mem_cons_self (by decide) (Nat.le_of_ble_eq_true rfl) (Nat.le_of_ble_eq_true rfl) ?_
  refine V_putr (ty := .array .int) dX2_init_26 sp_RX2_18 (by decide +kernel) rfl (by decide) ((addC_gl l2).trans h2) ?_
  refine V_sta (σ' := nwA (nwA (nwA σ a 0 0 7) a 1 0 7) a 2 0 128) rfl ?_
  have h3 : gl (nwA (nwA (nwA σ a 0 0 7) a 1 0 7) a 2 0 128) a = some (.inl 2) := (nwA_gl l2).trans h2
  have l3 : a < gn (nwA (nwA (nwA σ a 0 0 7) a 1 0 7) a 2 0 128) := nwA_lt l2
  refine V_aload_n dX2_init_29 rfl ?_
  refine V_sipush dX2_init_30 (by decide) ?_
  refine V_newa (t := 0) (N := 128) dX2_init_33 List.mem_cons_self (by decide) (Nat.le_of_ble_eq_true rfl) (Nat.le_of_ble_eq_true rfl) ?_
  refine V_putr (ty := .array .int) dX2_init_35 sp_RX2_21 (by decide +kernel) rfl (by decide) ((addC_gl l3).trans h3) ?_
  refine V_sta (σ' := nwA (nwA (nwA (nwA σ a 0 0 7) a 1 0 7) a 2 0 128) a 3 0 128) rfl ?_
  have h4 : gl (nwA (nwA (nwA (nwA σ a 0 0 7) a 1 0 7) a 2 0 128) a 3 0 128) a = some (.inl 2) := (nwA_gl l3).trans h3
  have l4 : a < gn (nwA (nwA (nwA (nwA σ a 0 0 7) a 1 0 7) a 2 0 128) a 3 0 128) := nwA_lt l3
  refine V_vret dX2_init_38 rfl (Nat.le_of_ble_eq_true rfl) (Nat.le_of_ble_eq_true rfl) ?_
  exact ⟨rfl, rfl⟩
def i12S (σ : St) (a : Nat) : St := setG (setG (setG (setG (nwA (nwA (nwA (nwA (nwA (nwA (nwA (nwA (nwA (nwA (nwA (nwA (nwA (nwA (nwA σ a 0 0 77) a 1 0 77) a 2 0 77) a 7 0 80) a 11 0 200) a 13 0 9) a 14 0 9) a 18 0 7) a 19 0 7) a 24 0 6) a 25 0 6) a 26 0 6) a 27 0 6) a 28 1 180) a 29 1 30) (gn σ) 0 100) (gn σ) 1 4) (gn σ) 2 3) (gn σ) 3 2
