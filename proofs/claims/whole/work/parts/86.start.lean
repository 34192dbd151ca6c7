/-! the state that the law begins with -/
def NB (σ : St) : Prop := ∀ b, gn σ ≤ b → gl σ b = none
theorem NB.addC {σ : St} (h : NB σ) (s : Sh) : NB (addC σ s) := fun b hb => by
  have h1 : gn σ + 1 ≤ b := hb
  exact (up1_ne _ (by omega) _).trans (h b (by omega))
theorem NB.nwA {σ : St} (h : NB σ) (a f t N : Nat) : NB (nwA σ a f t N) := h.addC _
theorem NB.nwR {σ : St} (h : NB σ) (a f : Nat) : NB (nwR σ a f) := h.addC _
theorem NB.nwM {σ : St} (h : NB σ) (a f N K : Nat) : NB (nwM σ a f N K) := fun b hb => by
  have h1 : gn σ + 1 + N ≤ b := hb
  exact (if_neg (by omega)).trans ((if_neg (by omega)).trans (h b (by omega)))
theorem NB.setG {σ : St} (h : NB σ) (a k : Nat) (v : Int) : NB (setG σ a k v) := h
theorem nwO_gl {σ : St} {a f ci c : Nat} {I : St → Nat → St} (hI : ∀ (τ : St) (b c : Nat), c < gn τ → gl (I τ b) c = gl τ c) (h : c < gn σ) : gl (nwO σ a f ci I) c = gl σ c := (hI (addC σ (.inl ci)) (gn σ) c (show c < gn σ + 1 by omega)).trans (addC_gl h)
theorem nwO_lt {σ : St} {a f ci c k : Nat} {I : St → Nat → St} (hI : ∀ (τ : St) (b : Nat), gn (I τ b) = gn τ + k) (h : c < gn σ) : c < gn (nwO σ a f ci I) := by
  have e : gn (nwO σ a f ci I) = gn (I (addC σ (.inl ci)) (gn σ)) := rfl
  have e2 : gn (addC σ (.inl ci)) = gn σ + 1 := rfl
  rw [e, hI, e2]
  omega
theorem NB.nwO {σ : St} (h : NB σ) (a f ci : Nat) {I : St → Nat → St} (hI : ∀ τ b, NB τ → NB (I τ b)) : NB (nwO σ a f ci I) := hI _ _ (h.addC _)
theorem NB.i7 (τ : St) (b : Nat) (h : NB τ) : NB (i7S τ b) := (((h.nwA _ _ _ _).nwA _ _ _ _).nwA _ _ _ _).nwR _ _
theorem i7S_gn (σ : St) (a : Nat) : gn (i7S σ a) = gn σ + 4 := rfl
theorem NB.i8 (τ : St) (b : Nat) (h : NB τ) : NB (i8S τ b) := (((h.nwA _ _ _ _).nwA _ _ _ _).nwA _ _ _ _).nwM _ _ _ _
theorem i8S_gn (σ : St) (a : Nat) : gn (i8S σ a) = gn σ + 31 := rfl
theorem NB.i5 (τ : St) (b : Nat) (h : NB τ) : NB (i5S τ b) := (h.nwA _ _ _ _).nwA _ _ _ _
theorem i5S_gn (σ : St) (a : Nat) : gn (i5S σ a) = gn σ + 2 := rfl
theorem NB.i4 (τ : St) (b : Nat) (h : NB τ) : NB (i4S τ b) := ((((h.nwA _ _ _ _).nwA _ _ _ _).nwA _ _ _ _).nwM _ _ _ _).nwA _ _ _ _
theorem i4S_gn (σ : St) (a : Nat) : gn (i4S σ a) = gn σ + 13 := rfl
theorem NB.i1 (τ : St) (b : Nat) (h : NB τ) : NB (i1S τ b) := (h.nwA _ _ _ _).nwA _ _ _ _
theorem i1S_gn (σ : St) (a : Nat) : gn (i1S σ a) = gn σ + 2 := rfl
theorem NB.i2 (τ : St) (b : Nat) (h : NB τ) : NB (i2S τ b) := (((h.nwA _ _ _ _).nwA _ _ _ _).nwA _ _ _ _).nwA _ _ _ _
theorem i2S_gn (σ : St) (a : Nat) : gn (i2S σ a) = gn σ + 4 := rfl
theorem NB.i12 (τ : St) (b : Nat) (h : NB τ) : NB (i12S τ b) := by
  unfold i12S
  exact ((((((((((((((((((h.nwA _ _ _ _).nwA _ _ _ _).nwA _ _ _ _).nwA _ _ _ _).nwA _ _ _ _).nwA _ _ _ _).nwA _ _ _ _).nwA _ _ _ _).nwA _ _ _ _).nwA _ _ _ _).nwA _ _ _ _).nwA _ _ _ _).nwA _ _ _ _).nwA _ _ _ _).nwA _ _ _ _).setG _ _ _).setG _ _ _).setG _ _ _).setG _ _ _
def i11S (σ : St) (a : Nat) : St := nwO (nwO (nwO (nwO (setG (nwO (nwA (setG (nwO (nwO σ a 0 7 i7S) a 1 7 i7S) a 2 0) a 3 6 6) a 4 8 i8S) a 5 0) a 6 5 i5S) a 7 4 i4S) a 8 1 i1S) a 9 2 i2S
theorem NB.i11 (τ : St) (b : Nat) (h : NB τ) : NB (i11S τ b) := by
  unfold i11S
  exact (NB.nwO (NB.nwO (NB.nwO (NB.nwO (NB.setG (NB.nwO (NB.nwA (NB.setG (NB.nwO (NB.nwO h _ _ _ NB.i7) _ _ _ NB.i7) _ _ _) _ _ _ _) _ _ _ NB.i8) _ _ _) _ _ _ NB.i5) _ _ _ NB.i4) _ _ _ NB.i1) _ _ _ NB.i2)
theorem c_i11 (g : Gl) (σ : St) (a : Nat) (h0 : gl σ a = some (.inl 10)) (l0 : a < gn σ) : Ct g mX11_init 2 68 2794 [vq (some a)] σ (rV (i11S σ a)) := by
  refine Ct.of (by decide +kernel) (Nat.le_of_ble_eq_true rfl) ?_
  refine V_aload_n dX11_init_0 rfl ?_
  refine V_objInit dX11_init_1 so_RX11_3 (by decide) (Nat.le_of_ble_eq_true rfl) ?_
  refine V_aload_n dX11_init_4 rfl ?_
  refine V_new dX11_init_5 sn_RX11_9 (Nat.le_of_ble_eq_true rfl) (Nat.le_of_ble_eq_true rfl) ?_
  refine V_dup dX11_init_8 rfl ?_
  refine V_callI dX11_init_9 (c_i7 g _ (gn σ) (up1_is _ _ _) (Nat.lt_succ_self _)) si_RX11_11 rfl ⟨⟨(Nat.le_of_ble_eq_true rfl), (Nat.le_of_ble_eq_true rfl)⟩, ⟨(Nat.le_of_ble_eq_true rfl), (Nat.le_of_ble_eq_true rfl)⟩⟩ (Nat.le_of_ble_eq_true rfl) (fun r9 s9 p9 => ?_)
  obtain ⟨rfl, rfl⟩ := p9
  refine V_putr (ty := .object "HoopYard$Stock") dX11_init_12 sp_RX11_12 (by decide +kernel) rfl (by decide) ((i7S_gl (show a < gn σ + 1 by omega)).trans ((addC_gl l0).trans h0)) ?_
  obtain ⟨τ1, e1⟩ : ∃ τ, τ = nwO σ a 0 7 i7S := ⟨_, rfl⟩
  refine V_sta (σ' := τ1) e1.symm ?_
  have h1 : gl τ1 a = some (.inl 10) := by rw [e1]; exact (nwO_gl (I := i7S) (fun _ _ _ h => i7S_gl h) l0).trans h0
  have l1 : a < gn τ1 := by rw [e1]; exact nwO_lt (I := i7S) (k := 4) (fun τ b => i7S_gn τ b) l0
  refine V_aload_n dX11_init_15 rfl ?_
  refine V_new dX11_init_16 sn_RX11_9 (Nat.le_of_ble_eq_true rfl) (Nat.le_of_ble_eq_true rfl) ?_
  refine V_dup dX11_init_19 rfl ?_
  refine V_callI dX11_init_20 (c_i7 g _ (gn τ1) (up1_is _ _ _) (Nat.lt_succ_self _)) si_RX11_11 rfl ⟨⟨(Nat.le_of_ble_eq_true rfl), (Nat.le_of_ble_eq_true rfl)⟩, ⟨(Nat.le_of_ble_eq_true rfl), (Nat.le_of_ble_eq_true rfl)⟩⟩ (Nat.le_of_ble_eq_true rfl) (fun r20 s20 p20 => ?_)
  obtain ⟨rfl, rfl⟩ := p20
  refine V_putr (ty := .object "HoopYard$Stock") dX11_init_23 sp_RX11_18 (by decide +kernel) rfl (by decide) ((i7S_gl (show a < gn τ1 + 1 by omega)).trans ((addC_gl l1).trans h1)) ?_
  obtain ⟨τ2, e2⟩ : ∃ τ, τ = nwO τ1 a 1 7 i7S := ⟨_, rfl⟩
  refine V_sta (σ' := τ2) e2.symm ?_
  have h2 : gl τ2 a = some (.inl 10) := by rw [e2]; exact (nwO_gl (I := i7S) (fun _ _ _ h => i7S_gl h) l1).trans h1
  have l2 : a < gn τ2 := by rw [e2]; exact nwO_lt (I := i7S) (k := 4) (fun τ b => i7S_gn τ b) l1
  refine V_aload_n dX11_init_26 rfl ?_
  refine V_iconst dX11_init_27 ?_
  refine V_putz dX11_init_28 (sp_RX11_21 _) rfl h2 (by omega) ?_
  obtain ⟨τ3, e3⟩ : ∃ τ, τ = setG τ2 a 2 0 := ⟨_, rfl⟩
  refine V_sta (σ' := τ3) e3.symm ?_
  have h3 : gl τ3 a = some (.inl 10) := by rw [e3]; exact h2
  have l3 : a < gn τ3 := by rw [e3]; exact l2
  refine V_aload_n dX11_init_31 rfl ?_
  refine V_bipush dX11_init_32 (by decide) ?_
  refine V_anew (E := RX9) (t := 6) (N := 6) dX11_init_34 (List.mem_cons_of_mem _ (List.mem_cons_of_mem _ (List.mem_cons_of_mem _ List.mem_cons_self))) sl_RX11_25 (by decide) (Nat.le_of_ble_eq_true rfl) (Nat.le_of_ble_eq_true rfl) ?_
  refine V_putr (ty := .array (.object "HoopYard$Thing")) dX11_init_37 sp_RX11_27 (by decide +kernel) rfl (by decide) ((addC_gl l3).trans h3) ?_
  obtain ⟨τ4, e4⟩ : ∃ τ, τ = nwA τ3 a 3 6 6 := ⟨_, rfl⟩
  refine V_sta (σ' := τ4) e4.symm ?_
  have h4 : gl τ4 a = some (.inl 10) := by rw [e4]; exact (nwA_gl l3).trans h3
  have l4 : a < gn τ4 := by rw [e4]; exact nwA_lt l3
  refine V_aload_n dX11_init_40 rfl ?_
  refine V_new dX11_init_41 sn_RX11_31 (Nat.le_of_ble_eq_true rfl) (Nat.le_of_ble_eq_true rfl) ?_
  refine V_dup dX11_init_44 rfl ?_
  refine V_callI dX11_init_45 (c_i8 g _ (gn τ4) (up1_is _ _ _) (Nat.lt_succ_self _)) si_RX11_33 rfl ⟨⟨(Nat.le_of_ble_eq_true rfl), (Nat.le_of_ble_eq_true rfl)⟩, ⟨(Nat.le_of_ble_eq_true rfl), (Nat.le_of_ble_eq_true rfl)⟩⟩ (Nat.le_of_ble_eq_true rfl) (fun r45 s45 p45 => ?_)
  obtain ⟨rfl, rfl⟩ := p45
  refine V_putr (ty := .object "HoopYard$Tape") dX11_init_48 sp_RX11_34 (by decide +kernel) rfl (by decide) ((i8S_gl (show a < gn τ4 + 1 by omega)).trans ((addC_gl l4).trans h4)) ?_
  obtain ⟨τ5, e5⟩ : ∃ τ, τ = nwO τ4 a 4 8 i8S := ⟨_, rfl⟩
  refine V_sta (σ' := τ5) e5.symm ?_
  have h5 : gl τ5 a = some (.inl 10) := by rw [e5]; exact (nwO_gl (I := i8S) (fun _ _ _ h => i8S_gl h) l4).trans h4
  have l5 : a < gn τ5 := by rw [e5]; exact nwO_lt (I := i8S) (k := 31) (fun τ b => i8S_gn τ b) l4
  refine V_aload_n dX11_init_51 rfl ?_
  refine V_iconst dX11_init_52 ?_
  refine V_puti dX11_init_53 (sp_RX11_38 _) rfl h5 ?_
  obtain ⟨τ6, e6⟩ : ∃ τ, τ = setG τ5 a 5 0 := ⟨_, rfl⟩
  refine V_sta (σ' := τ6) e6.symm ?_
  have h6 : gl τ6 a = some (.inl 10) := by rw [e6]; exact h5
  have l6 : a < gn τ6 := by rw [e6]; exact l5
  refine V_aload_n dX11_init_56 rfl ?_
  refine V_new dX11_init_57 sn_RX11_42 (Nat.le_of_ble_eq_true rfl) (Nat.le_of_ble_eq_true rfl) ?_
  refine V_dup dX11_init_60 rfl ?_
  refine V_callI dX11_init_61 (c_i5 g _ (gn τ6) (up1_is _ _ _) (Nat.lt_succ_self _)) si_RX11_44 rfl ⟨⟨(Nat.le_of_ble_eq_true rfl), (Nat.le_of_ble_eq_true rfl)⟩, ⟨(Nat.le_of_ble_eq_true rfl), (Nat.le_of_ble_eq_true rfl)⟩⟩ (Nat.le_of_ble_eq_true rfl) (fun r61 s61 p61 => ?_)
  obtain ⟨rfl, rfl⟩ := p61
  refine V_putr (ty := .object "HoopYard$Rounds") dX11_init_64 sp_RX11_45 (by decide +kernel) rfl (by decide) ((i5S_gl (show a < gn τ6 + 1 by omega)).trans ((addC_gl l6).trans h6)) ?_
  obtain ⟨τ7, e7⟩ : ∃ τ, τ = nwO τ6 a 6 5 i5S := ⟨_, rfl⟩
  refine V_sta (σ' := τ7) e7.symm ?_
  have h7 : gl τ7 a = some (.inl 10) := by rw [e7]; exact (nwO_gl (I := i5S) (fun _ _ _ h => i5S_gl h) l6).trans h6
  have l7 : a < gn τ7 := by rw [e7]; exact nwO_lt (I := i5S) (k := 2) (fun τ b => i5S_gn τ b) l6
  refine V_aload_n dX11_init_67 rfl ?_
  refine V_new dX11_init_68 sn_RX11_49 (Nat.le_of_ble_eq_true rfl) (Nat.le_of_ble_eq_true rfl) ?_
  refine V_dup dX11_init_71 rfl ?_
  refine V_callI dX11_init_72 (c_i4 g _ (gn τ7) (up1_is _ _ _) (Nat.lt_succ_self _)) si_RX11_51 rfl ⟨⟨(Nat.le_of_ble_eq_true rfl), (Nat.le_of_ble_eq_true rfl)⟩, ⟨(Nat.le_of_ble_eq_true rfl), (Nat.le_of_ble_eq_true rfl)⟩⟩ (Nat.le_of_ble_eq_true rfl) (fun r72 s72 p72 => ?_)
  obtain ⟨rfl, rfl⟩ := p72
  refine V_putr (ty := .object "HoopYard$RingBench") dX11_init_75 sp_RX11_52 (by decide +kernel) rfl (by decide) ((i4S_gl (show a < gn τ7 + 1 by omega)).trans ((addC_gl l7).trans h7)) ?_
  obtain ⟨τ8, e8⟩ : ∃ τ, τ = nwO τ7 a 7 4 i4S := ⟨_, rfl⟩
  refine V_sta (σ' := τ8) e8.symm ?_
  have h8 : gl τ8 a = some (.inl 10) := by rw [e8]; exact (nwO_gl (I := i4S) (fun _ _ _ h => i4S_gl h) l7).trans h7
  have l8 : a < gn τ8 := by rw [e8]; exact nwO_lt (I := i4S) (k := 13) (fun τ b => i4S_gn τ b) l7
  refine V_aload_n dX11_init_78 rfl ?_
  refine V_new dX11_init_79 sn_RX11_56 (Nat.le_of_ble_eq_true rfl) (Nat.le_of_ble_eq_true rfl) ?_
  refine V_dup dX11_init_82 rfl ?_
  refine V_callI dX11_init_83 (c_i1 g _ (gn τ8) (up1_is _ _ _) (Nat.lt_succ_self _)) si_RX11_58 rfl ⟨⟨(Nat.le_of_ble_eq_true rfl), (Nat.le_of_ble_eq_true rfl)⟩, ⟨(Nat.le_of_ble_eq_true rfl), (Nat.le_of_ble_eq_true rfl)⟩⟩ (Nat.le_of_ble_eq_true rfl) (fun r83 s83 p83 => ?_)
  obtain ⟨rfl, rfl⟩ := p83
  refine V_putr (ty := .object "HoopYard$Cask") dX11_init_86 sp_RX11_59 (by decide +kernel) rfl (by decide) ((i1S_gl (show a < gn τ8 + 1 by omega)).trans ((addC_gl l8).trans h8)) ?_
  obtain ⟨τ9, e9⟩ : ∃ τ, τ = nwO τ8 a 8 1 i1S := ⟨_, rfl⟩
  refine V_sta (σ' := τ9) e9.symm ?_
  have h9 : gl τ9 a = some (.inl 10) := by rw [e9]; exact (nwO_gl (I := i1S) (fun _ _ _ h => i1S_gl h) l8).trans h8
  have l9 : a < gn τ9 := by rw [e9]; exact nwO_lt (I := i1S) (k := 2) (fun τ b => i1S_gn τ b) l8
  refine V_aload_n dX11_init_89 rfl ?_
  refine V_new dX11_init_90 sn_RX11_63 (Nat.le_of_ble_eq_true rfl) (Nat.le_of_ble_eq_true rfl) ?_
  refine V_dup dX11_init_93 rfl ?_
  refine V_callI dX11_init_94 (c_i2 g _ (gn τ9) (up1_is _ _ _) (Nat.lt_succ_self _)) si_RX11_65 rfl ⟨⟨(Nat.le_of_ble_eq_true rfl), (Nat.le_of_ble_eq_true rfl)⟩, ⟨(Nat.le_of_ble_eq_true rfl), (Nat.le_of_ble_eq_true rfl)⟩⟩ (Nat.le_of_ble_eq_true rfl) (fun r94 s94 p94 => ?_)
  obtain ⟨rfl, rfl⟩ := p94
  refine V_putr (ty := .object "HoopYard$HeadBench") dX11_init_97 sp_RX11_66 (by decide +kernel) rfl (by decide) ((i2S_gl (show a < gn τ9 + 1 by omega)).trans ((addC_gl l9).trans h9)) ?_
  obtain ⟨τ10, e10⟩ : ∃ τ, τ = nwO τ9 a 9 2 i2S := ⟨_, rfl⟩
  refine V_sta (σ' := τ10) e10.symm ?_
  have h10 : gl τ10 a = some (.inl 10) := by rw [e10]; exact (nwO_gl (I := i2S) (fun _ _ _ h => i2S_gl h) l9).trans h9
  have l10 : a < gn τ10 := by rw [e10]; exact nwO_lt (I := i2S) (k := 4) (fun τ b => i2S_gn τ b) l9
  refine V_vret dX11_init_100 rfl (Nat.le_of_ble_eq_true rfl) (Nat.le_of_ble_eq_true rfl) ?_
  refine ⟨rfl, ?_⟩
  unfold i11S
  rw [← e1, ← e2, ← e3, ← e4, ← e5, ← e6, ← e7, ← e8, ← e9, ← e10]
def s0S : St := (fun _ => none, 8, fun _ _ => 0, fun _ _ => 0, fun _ _ => none)
def sYS : St := i11S (addC s0S (.inl 10)) 8
def sFS : St := i12S (addC sYS (.inl 11)) 77
theorem sF_nb : NB sFS := NB.i12 _ _ (NB.addC (NB.i11 _ _ (NB.addC (fun _ _ => rfl) _)) _)
