/-! the model reads -/
def TM2 (σ : St) (t : Nat → Int) (n : Int) : Prop := gG σ 77 6 = n ∧ (0 ≤ n ∧ n ≤ 80) ∧ ∀ k : Nat, (k : Int) < n → gG σ 81 k = t k ∧ 0 ≤ t k ∧ t k ≤ 127
/-- but places 8, 9, 10 of the model and its row 82 from b on, nothing has changed -/
def LF (b : Nat) (σ τ : St) : Prop := (gl τ = gl σ ∧ gn τ = gn σ ∧ gL τ = gL σ ∧ gP τ = gP σ) ∧ (∀ a, a ≠ 77 → a ≠ 82 → gG τ a = gG σ a) ∧ (∀ j, j < 8 ∨ 10 < j → gG τ 77 j = gG σ 77 j) ∧ ∀ j, j < b → gG τ 82 j = gG σ 82 j
theorem LF.rf (b : Nat) (σ : St) : LF b σ σ := ⟨⟨rfl, rfl, rfl, rfl⟩, fun _ _ _ => rfl, fun _ _ => rfl, fun _ _ => rfl⟩
theorem LF.tr {b d : Nat} {σ τ υ : St} (h : LF b σ τ) (h2 : LF d τ υ) (hd : b ≤ d) : LF b σ υ := ⟨⟨h2.1.1.trans h.1.1, h2.1.2.1.trans h.1.2.1, h2.1.2.2.1.trans h.1.2.2.1, h2.1.2.2.2.trans h.1.2.2.2⟩, fun a p q => (h2.2.1 a p q).trans (h.2.1 a p q), fun j p => (h2.2.2.1 j p).trans (h.2.2.1 j p), fun j hj => (h2.2.2.2 j (by omega)).trans (h.2.2.2 j hj)⟩
theorem LF.on77 {b : Nat} {σ τ : St} (h : LF b σ τ) {k : Nat} (v : Int) (hk : 8 ≤ k ∧ k ≤ 10) : LF b σ (setG τ 77 k v) := ⟨h.1, fun a p q => (up1_ne _ p _).trans (h.2.1 a p q), fun j p => (gG_ne _ _ (Or.inr (by omega))).trans (h.2.2.1 j p), fun j hj => (gG_ne _ _ (Or.inl (by decide))).trans (h.2.2.2 j hj)⟩
theorem LF.on82 {b : Nat} {σ τ : St} (h : LF b σ τ) {k : Nat} (v : Int) (hk : b ≤ k) : LF b σ (setG τ 82 k v) := ⟨h.1, fun a p q => (up1_ne _ q _).trans (h.2.1 a p q), fun j p => (gG_ne _ _ (Or.inl (by decide))).trans (h.2.2.1 j p), fun j hj => (gG_ne _ _ (Or.inr (by omega))).trans (h.2.2.2 j hj)⟩
theorem LF.ms {b : Nat} {σ τ : St} (h : LF b σ τ) : MS σ τ := ⟨⟨h.1.1, h.1.2.1, h.1.2.2.2⟩, fun a _ => by rw [h.1.2.2.1], fun a p => h.2.1 a (by omega) (by omega), fun j p => h.2.2.1 j (by omega)⟩
theorem LF.tm {b : Nat} {σ τ : St} (h : LF b σ τ) {t : Nat → Int} {n : Int} (hT : TM2 σ t n) : TM2 τ t n := ⟨(h.2.2.1 6 (by decide)).trans hT.1, hT.2.1, fun k hk => by rw [h.2.1 81 (by decide) (by decide)]; exact hT.2.2 k hk⟩
theorem pk_m {σ : St} {t : Nat → Int} {n : Int} (h : TM2 σ t n) {c : Int} (hc : 0 ≤ c) : -1 ≤ pk t n c ∧ pk t n c ≤ 127 ∧ (0 ≤ pk t n c → c < n) ∧ (c < n → pk t n c = gG σ 81 c.toNat ∧ 0 ≤ pk t n c) := by
  unfold pk
  split
  · have := h.2.2 c.toNat (by omega)
    exact ⟨by omega, by omega, fun _ => by omega, fun _ => ⟨this.1.symm, this.2.1⟩⟩
  · exact ⟨by decide, by decide, fun z => by omega, fun z => by omega⟩
theorem c_mIsFrom (g : Gl) (σ : St) (hS : Std σ) (t : Nat → Int) (n : Int) (hT : TM2 σ t n) (c f : Int) (h8 : gG σ 77 8 = c) (h9 : gG σ 77 9 = f) (hc : 0 ≤ c ∧ c ≤ n) (hf : inR f) (lo hi : Int) (hl : 0 ≤ lo ∧ lo ≤ 127) (hh : 0 ≤ hi ∧ hi ≤ 127) : Ct g mX12_isFrom 1 0 0 [vq (some 77), vi lo, vi hi] σ (rP (vi (bI (f < 0 ∧ (lo ≤ pk t n c ∧ pk t n c ≤ hi)))) σ) := by
  refine Ct.of (by decide +kernel) (Nat.le_of_ble_eq_true rfl) ?_
  have p := pk_m hT hc.1
  have hn := hT.2.1
  refine V_aload_n dX12_isFrom_0 rfl ?_
  refine V_getfi dX12_isFrom_1 sf_RX12_209 rfl (sh hS rfl) ?_
  refine V_val (show _ = f from h9) ?_
  refine V_ifge (tgt := 39) dX12_isFrom_4 (by decide) (by omega) (fun br4 => ?_) (fun br4 => ?_)
  · refine V_iconst dX12_isFrom_39 ?_
    refine V_zret dX12_isFrom_40 rfl (Nat.le_refl _) (Nat.le_refl _) (by first | omega | exact bI_01 _) ?_
    first | exact rP_t (by omega) | exact rP_f (by omega)
  · refine V_aload_n dX12_isFrom_7 rfl ?_
    refine V_getfi dX12_isFrom_8 sf_RX12_212 rfl (sh hS rfl) ?_
    refine V_val (show _ = c from h8) ?_
    refine V_aload_n dX12_isFrom_11 rfl ?_
    refine V_getfi dX12_isFrom_12 sf_RX12_77 rfl (sh hS rfl) ?_
    refine V_val (show _ = n from hT.1) ?_
    refine V_icmpge (tgt := 39) dX12_isFrom_15 (by decide) (by omega) (by omega) (fun br15 => ?_) (fun br15 => ?_)
    · refine V_iconst dX12_isFrom_39 ?_
      refine V_zret dX12_isFrom_40 rfl (Nat.le_refl _) (Nat.le_refl _) (by first | omega | exact bI_01 _) ?_
      first | exact rP_t (by omega) | exact rP_f (by omega)
    · refine V_aload_n dX12_isFrom_18 rfl ?_
      refine V_getfr dX12_isFrom_19 sf_RX12_21 (by decide) (sh hS rfl) (rf hS rfl) ?_
      refine V_aload_n dX12_isFrom_22 rfl ?_
      refine V_getfi dX12_isFrom_23 sf_RX12_212 rfl (sh hS rfl) ?_
      refine V_val (show _ = c from h8) ?_
      refine V_iald dX12_isFrom_26 (sh hS rfl) (by omega) ?_
      refine V_val (show _ = pk t n c from ((p.2.2.2 (by omega)).1).symm) ?_
      refine V_iload_n dX12_isFrom_27 rfl ?_
      refine V_iload_n dX12_isFrom_28 rfl ?_
      refine V_callS dX12_isFrom_29 (c_within g _ _ _ _ (by omega) (by omega) (by omega)) ss_RX12_58 rfl ⟨⟨by decide, by decide⟩, ⟨by decide, by decide⟩⟩ (Nat.le_of_ble_eq_true rfl) (fun r29 s29 p29 => ?_)
      obtain ⟨rfl, rfl⟩ := p29
      refine V_ifeqB (tgt := 39) dX12_isFrom_32 (by decide) (fun br32 => ?_) (fun br32 => ?_)
      · refine V_iconst dX12_isFrom_39 ?_
        refine V_zret dX12_isFrom_40 rfl (Nat.le_refl _) (Nat.le_refl _) (by first | omega | exact bI_01 _) ?_
        first | exact rP_t (by omega) | exact rP_f (by omega)
      · refine V_iconst dX12_isFrom_35 ?_
        refine V_goto (tgt := 40) dX12_isFrom_36 (by decide) ?_
        refine V_zret dX12_isFrom_40 rfl (Nat.le_refl _) (Nat.le_refl _) (by first | omega | exact bI_01 _) ?_
        first | exact rP_t (by omega) | exact rP_f (by omega)
theorem c_mWrong0 (g : Gl) (σ : St) (hS : Std σ) (c f : Int) (h8 : gG σ 77 8 = c) (h9 : gG σ 77 9 = f) (hf : -1 ≤ f ∧ f < 0) : Ct g mX12_wrong 0 0 0 [vq (some 77)] σ (rV (setG σ 77 9 c)) := by
  refine Ct.of (by decide +kernel) (Nat.le_of_ble_eq_true rfl) ?_
  refine V_aload_n dX12_wrong_0 rfl ?_
  refine V_getfi dX12_wrong_1 sf_RX12_209 rfl (sh hS rfl) ?_
  refine V_val (show _ = f from h9) ?_
  refine V_ifge (tgt := 15) dX12_wrong_4 (by decide) (by omega) (fun br4 => ?_) (fun br4 => ?_)
  · omega
  · refine V_aload_n dX12_wrong_7 rfl ?_
    refine V_aload_n dX12_wrong_8 rfl ?_
    refine V_getfi dX12_wrong_9 sf_RX12_212 rfl (sh hS rfl) ?_
    refine V_val (show _ = c from h8) ?_
    refine V_puti dX12_wrong_12 (sp_RX12_209 _) rfl (sh hS rfl) ?_
    refine V_vret dX12_wrong_15 rfl (Nat.le_refl _) (Nat.le_refl _) ?_
    exact ⟨rfl, rfl⟩
theorem c_mWrong1 (g : Gl) (σ : St) (hS : Std σ) (f : Int) (h9 : gG σ 77 9 = f) (hf : 0 ≤ f ∧ f ≤ 100) : Ct g mX12_wrong 0 0 0 [vq (some 77)] σ (rV σ) := by
  refine Ct.of (by decide +kernel) (Nat.le_of_ble_eq_true rfl) ?_
  refine V_aload_n dX12_wrong_0 rfl ?_
  refine V_getfi dX12_wrong_1 sf_RX12_209 rfl (sh hS rfl) ?_
  refine V_val (show _ = f from h9) ?_
  refine V_ifge (tgt := 15) dX12_wrong_4 (by decide) (by omega) (fun br4 => ?_) (fun br4 => ?_)
  · refine V_vret dX12_wrong_15 rfl (Nat.le_refl _) (Nat.le_refl _) ?_
    exact ⟨rfl, rfl⟩
  · omega
theorem c_mNumbers (g : Gl) (σ : St) (l : Int) (hl : inR l) : Ct g mX12_numbers 0 0 0 [vi l] σ (rP (vi (hmN l)) σ) := by
  refine Ct.of (by decide +kernel) (Nat.le_of_ble_eq_true rfl) ?_
  refine V_iload_n dX12_numbers_0 rfl ?_
  refine V_bipush dX12_numbers_1 (by decide) ?_
  refine V_icmpne (tgt := 10) dX12_numbers_3 (by decide) (by omega) (by omega) (fun br3 => ?_) (fun br3 => ?_)
  · refine V_iload_n dX12_numbers_10 rfl ?_
    refine V_bipush dX12_numbers_11 (by decide) ?_
    refine V_icmpne (tgt := 20) dX12_numbers_13 (by decide) (by omega) (by omega) (fun br13 => ?_) (fun br13 => ?_)
    · refine V_iload_n dX12_numbers_20 rfl ?_
      refine V_bipush dX12_numbers_21 (by decide) ?_
      refine V_icmpeq (tgt := 38) dX12_numbers_23 (by decide) (by omega) (by omega) (fun br23 => ?_) (fun br23 => ?_)
      · refine V_iconst dX12_numbers_38 ?_
        refine V_goto (tgt := 43) dX12_numbers_39 (by decide) ?_
        refine V_iret dX12_numbers_43 rfl (Nat.le_refl _) (Nat.le_refl _) ?_
        exact rP_i (by unfold hmN; (repeat' split) <;> omega) rfl
      · refine V_iload_n dX12_numbers_26 rfl ?_
        refine V_bipush dX12_numbers_27 (by decide) ?_
        refine V_icmpeq (tgt := 38) dX12_numbers_29 (by decide) (by omega) (by omega) (fun br29 => ?_) (fun br29 => ?_)
        · refine V_iconst dX12_numbers_38 ?_
          refine V_goto (tgt := 43) dX12_numbers_39 (by decide) ?_
          refine V_iret dX12_numbers_43 rfl (Nat.le_refl _) (Nat.le_refl _) ?_
          exact rP_i (by unfold hmN; (repeat' split) <;> omega) rfl
        · refine V_iload_n dX12_numbers_32 rfl ?_
          refine V_bipush dX12_numbers_33 (by decide) ?_
          refine V_icmpne (tgt := 42) dX12_numbers_35 (by decide) (by omega) (by omega) (fun br35 => ?_) (fun br35 => ?_)
          · refine V_iconst dX12_numbers_42 ?_
            refine V_iret dX12_numbers_43 rfl (Nat.le_refl _) (Nat.le_refl _) ?_
            exact rP_i (by unfold hmN; (repeat' split) <;> omega) rfl
          · refine V_iconst dX12_numbers_38 ?_
            refine V_goto (tgt := 43) dX12_numbers_39 (by decide) ?_
            refine V_iret dX12_numbers_43 rfl (Nat.le_refl _) (Nat.le_refl _) ?_
            exact rP_i (by unfold hmN; (repeat' split) <;> omega) rfl
    · refine V_iconst dX12_numbers_16 ?_
      refine V_goto (tgt := 43) dX12_numbers_17 (by decide) ?_
      refine V_iret dX12_numbers_43 rfl (Nat.le_refl _) (Nat.le_refl _) ?_
      exact rP_i (by unfold hmN; (repeat' split) <;> omega) rfl
  · refine V_iconst dX12_numbers_6 ?_
    refine V_goto (tgt := 43) dX12_numbers_7 (by decide) ?_
    refine V_iret dX12_numbers_43 rfl (Nat.le_refl _) (Nat.le_refl _) ?_
    exact rP_i (by unfold hmN; (repeat' split) <;> omega) rfl
theorem c_mNumberF (g : Gl) (σ : St) (hS : Std σ) (t : Nat → Int) (n : Int) (hT : TM2 σ t n) (c f : Int) (h8 : gG σ 77 8 = c) (h9 : gG σ 77 9 = f) (hc : 0 ≤ c ∧ c ≤ n) (hf : 0 ≤ f ∧ f ≤ 100) : Ct g mX12_number 2 0 0 [vq (some 77)] σ (rP (vi 0) σ) := by
  refine Ct.of (by decide +kernel) (Nat.le_of_ble_eq_true rfl) ?_
  refine V_aload_n dX12_number_0 rfl ?_
  refine V_bipush dX12_number_1 (by decide) ?_
  refine V_bipush dX12_number_3 (by decide) ?_
  refine V_callV dX12_number_5 (c_mIsFrom g _ hS t n hT c f h8 h9 hc (by omega) 45 45 (by decide) (by decide)) sv_RX12_215 (sh hS rfl) rfl ⟨⟨by decide, by decide⟩, ⟨by decide, by decide⟩⟩ (Nat.le_of_ble_eq_true rfl) (fun r5 s5 p5 => ?_)
  obtain ⟨rfl, rfl⟩ := p5
  refine V_istore_n dX12_number_8 (by decide) rfl ?_
  refine V_iload_n dX12_number_9 rfl ?_
  refine V_ifeqB (tgt := 23) dX12_number_10 (by decide) (fun br10 => ?_) (fun br10 => ?_)
  · refine V_iconst dX12_number_23 ?_
    refine V_istore_n dX12_number_24 (by decide) rfl ?_
    refine V_iconst dX12_number_25 ?_
    refine V_istore_n dX12_number_26 (by decide) rfl ?_
    refine V_iload_n dX12_number_27 rfl ?_
    refine V_iconst dX12_number_28 ?_
    refine V_icmpge (tgt := 77) dX12_number_29 (by decide) (by omega) (by omega) (fun br29 => ?_) (fun br29 => ?_)
    · omega
    · refine V_aload_n dX12_number_32 rfl ?_
      refine V_bipush dX12_number_33 (by decide) ?_
      refine V_bipush dX12_number_35 (by decide) ?_
      refine V_callV dX12_number_37 (c_mIsFrom g _ hS t n hT c f h8 h9 hc (by omega) 48 57 (by decide) (by decide)) sv_RX12_215 (sh hS rfl) rfl ⟨⟨by decide, by decide⟩, ⟨by decide, by decide⟩⟩ (Nat.le_of_ble_eq_true rfl) (fun r37 s37 p37 => ?_)
      obtain ⟨rfl, rfl⟩ := p37
      refine V_ifeqB (tgt := 77) dX12_number_40 (by decide) (fun br40 => ?_) (fun br40 => ?_)
      · refine V_iload_n dX12_number_77 rfl ?_
        refine V_ifne (tgt := 85) dX12_number_78 (by decide) (by omega) (fun br78 => ?_) (fun br78 => ?_)
        · omega
        · refine V_aload_n dX12_number_81 rfl ?_
          refine V_callV dX12_number_82 (c_mWrong1 g _ hS f h9 hf) sv_RX12_218 (sh hS rfl) rfl ⟨⟨by decide, by decide⟩, ⟨by decide, by decide⟩⟩ (Nat.le_of_ble_eq_true rfl) (fun r82 s82 p82 => ?_)
          obtain ⟨rfl, rfl⟩ := p82
          refine V_iload_n dX12_number_85 rfl ?_
          refine V_ifeqB (tgt := 94) dX12_number_86 (by decide) (fun br86 => ?_) (fun br86 => ?_)
          · refine V_iload_n dX12_number_94 rfl ?_
            refine V_iret dX12_number_95 rfl (Nat.le_refl _) (Nat.le_refl _) ?_
            exact rP_i rfl rfl
          · omega
      · omega
  · omega
def PNu (σ : St) (t : Nat → Int) (n c : Int) : Option MV → St → Prop := fun r τ => r = some (vi (nuV t n c)) ∧ LF 200 σ τ ∧ gG τ 77 8 = nuE t n c ∧ gG τ 77 9 = (if nuS t n c < nuE t n c then -1 else nuE t n c) ∧ gG τ 77 10 = gG σ 77 10
theorem c_mNumber (g : Gl) (σ : St) (hS : Std σ) (t : Nat → Int) (n : Int) (hT : TM2 σ t n) (c : Int) (h8 : gG σ 77 8 = c) (h9 : gG σ 77 9 = -1) (hc : 0 ≤ c ∧ c ≤ n) : Ct g mX12_number 2 0 0 [vq (some 77)] σ (PNu σ t n c) := by
  refine Ct.of (by decide +kernel) (Nat.le_of_ble_eq_true rfl) ?_
  have hn := hT.2.1
  have sb := nuS_b (t := t) hc.2
  have eb := nuE_b (t := t) hc.2
  have fin : ∀ (k v : Int) (τ : St), LF 200 σ τ → gG τ 77 8 = nuE t n c → gG τ 77 9 = -1 → gG τ 77 10 = gG σ 77 10 → (k = 0 ↔ ¬ nuS t n c < nuE t n c) → 0 ≤ k ∧ k ≤ 4 → (dgF t n 4 0 (nuS t n c)).1 = v →
      V g mX12_number (rmD 2 0 0) (QM g 0 0 (PNu σ t n c)) 77 [some (vq (some 77)), some (vi (bI (pk t n c = 45))), some (vi k), some (vi v)] [] 0 0 τ := by
    intro k v τ hF e8 e9 e10 hk hkb hv
    have hS := hF.ms.std hS
    have vv : ∀ z, (pk t n c = 45 → z = -v) → (¬ pk t n c = 45 → z = v) → z = nuV t n c := fun z q1 q2 => by
      unfold nuV
      rw [hv]
      split
      · rename_i y; exact q1 y
      · rename_i y; exact q2 y
    refine V_iload_n dX12_number_77 rfl ?_
    refine V_ifne (tgt := 85) dX12_number_78 (by decide) (by omega) (fun br78 => ?_) (fun br78 => ?_)
    · refine V_iload_n dX12_number_85 rfl ?_
      refine V_ifeqB (tgt := 94) dX12_number_86 (by decide) (fun br86 => ?_) (fun br86 => ?_)
      · refine V_iload_n dX12_number_94 rfl ?_
        refine V_iret dX12_number_95 rfl (Nat.le_refl _) (Nat.le_refl _) ?_
        refine ⟨congrArg (fun z => some (vi z)) (vv _ (fun z => by first | rfl | exact absurd z br86) (fun z => by first | rfl | exact absurd br86 z)), ?_, ?_, ?_, ?_⟩
        · first
            | exact hF.on77 _ (by decide)
            | exact hF
        · first
            | exact (gG_ne _ _ (Or.inr (by decide))).trans e8
            | exact e8
        · first
            | (rw [if_neg (hk.mp br78)]; exact gG_is _ _ _ _)
            | (rw [if_pos (by
                 by_cases z : nuS t n c < nuE t n c
                 · exact z
                 · exact absurd (hk.mpr z) br78)]; exact e9)
        · first
            | exact (gG_ne _ _ (Or.inr (by decide))).trans e10
            | exact e10
      · refine V_iload_n dX12_number_89 rfl ?_
        refine V_ineg dX12_number_90 ?_
        refine V_goto (tgt := 95) dX12_number_91 (by decide) ?_
        refine V_iret dX12_number_95 rfl (Nat.le_refl _) (Nat.le_refl _) ?_
        refine ⟨congrArg (fun z => some (vi z)) (vv _ (fun z => by first | rfl | exact absurd z br86) (fun z => by first | rfl | exact absurd br86 z)), ?_, ?_, ?_, ?_⟩
        · first
            | exact hF.on77 _ (by decide)
            | exact hF
        · first
            | exact (gG_ne _ _ (Or.inr (by decide))).trans e8
            | exact e8
        · first
            | (rw [if_neg (hk.mp br78)]; exact gG_is _ _ _ _)
            | (rw [if_pos (by
                 by_cases z : nuS t n c < nuE t n c
                 · exact z
                 · exact absurd (hk.mpr z) br78)]; exact e9)
        · first
            | exact (gG_ne _ _ (Or.inr (by decide))).trans e10
            | exact e10
    · refine V_aload_n dX12_number_81 rfl ?_
      refine V_callV dX12_number_82 (c_mWrong0 g _ hS (nuE t n c) (-1) e8 e9 (by decide)) sv_RX12_218 (sh hS rfl) rfl ⟨⟨by decide, by decide⟩, ⟨by decide, by decide⟩⟩ (Nat.le_of_ble_eq_true rfl) (fun r82 s82 p82 => ?_)
      obtain ⟨rfl, rfl⟩ := p82
      refine V_iload_n dX12_number_85 rfl ?_
      refine V_ifeqB (tgt := 94) dX12_number_86 (by decide) (fun br86 => ?_) (fun br86 => ?_)
      · refine V_iload_n dX12_number_94 rfl ?_
        refine V_iret dX12_number_95 rfl (Nat.le_refl _) (Nat.le_refl _) ?_
        refine ⟨congrArg (fun z => some (vi z)) (vv _ (fun z => by first | rfl | exact absurd z br86) (fun z => by first | rfl | exact absurd br86 z)), ?_, ?_, ?_, ?_⟩
        · first
            | exact hF.on77 _ (by decide)
            | exact hF
        · first
            | exact (gG_ne _ _ (Or.inr (by decide))).trans e8
            | exact e8
        · first
            | (rw [if_neg (hk.mp br78)]; exact gG_is _ _ _ _)
            | (rw [if_pos (by
                 by_cases z : nuS t n c < nuE t n c
                 · exact z
                 · exact absurd (hk.mpr z) br78)]; exact e9)
        · first
            | exact (gG_ne _ _ (Or.inr (by decide))).trans e10
            | exact e10
      · refine V_iload_n dX12_number_89 rfl ?_
        refine V_ineg dX12_number_90 ?_
        refine V_goto (tgt := 95) dX12_number_91 (by decide) ?_
        refine V_iret dX12_number_95 rfl (Nat.le_refl _) (Nat.le_refl _) ?_
        refine ⟨congrArg (fun z => some (vi z)) (vv _ (fun z => by first | rfl | exact absurd z br86) (fun z => by first | rfl | exact absurd br86 z)), ?_, ?_, ?_, ?_⟩
        · first
            | exact hF.on77 _ (by decide)
            | exact hF
        · first
            | exact (gG_ne _ _ (Or.inr (by decide))).trans e8
            | exact e8
        · first
            | (rw [if_neg (hk.mp br78)]; exact gG_is _ _ _ _)
            | (rw [if_pos (by
                 by_cases z : nuS t n c < nuE t n c
                 · exact z
                 · exact absurd (hk.mpr z) br78)]; exact e9)
        · first
            | exact (gG_ne _ _ (Or.inr (by decide))).trans e10
            | exact e10
  have loop : ∀ (m k : Nat) (v e : Int) (τ : St), k + m = 4 → LF 200 σ τ → gG τ 77 8 = e → gG τ 77 9 = -1 → gG τ 77 10 = gG σ 77 10 → e = nuS t n c + k → e ≤ n → dgF t n 4 0 (nuS t n c) = dgF t n m v e →
      V g mX12_number (rmD 2 0 0) (QM g 0 0 (PNu σ t n c)) 27 [some (vq (some 77)), some (vi (bI (pk t n c = 45))), some (vi (k : Int)), some (vi v)] [] 0 0 τ := by
    intro m
    induction m with
    | zero =>
      intro k v e τ hk hF e8 e9 e10 he hen hd
      have hE : nuE t n c = e := by unfold nuE; rw [hd]; rfl
      refine V_iload_n dX12_number_27 rfl ?_
      refine V_iconst dX12_number_28 ?_
      refine V_icmpge (tgt := 77) dX12_number_29 (by decide) (by omega) (by omega) (fun br29 => ?_) (fun br29 => ?_)
      · refine V_mask [true, true, true, true] ?_
        exact fin _ v τ hF (by rw [hE]; exact e8) e9 e10 (by omega) (by omega) (by rw [hd]; rfl)
      · omega
    | succ m ih =>
      intro k v e τ hk hF e8 e9 e10 he hen hd
      have hSt := hF.ms.std hS
      have hTt := hF.tm hT
      have p := pk_m hTt (c := e) (by omega)
      have hS := hSt
      refine V_iload_n dX12_number_27 rfl ?_
      refine V_iconst dX12_number_28 ?_
      refine V_icmpge (tgt := 77) dX12_number_29 (by decide) (by omega) (by omega) (fun br29 => ?_) (fun br29 => ?_)
      · omega
      · refine V_aload_n dX12_number_32 rfl ?_
        refine V_bipush dX12_number_33 (by decide) ?_
        refine V_bipush dX12_number_35 (by decide) ?_
        refine V_callV dX12_number_37 (c_mIsFrom g _ hS t n hTt e (-1) e8 e9 (by omega) (by omega) 48 57 (by decide) (by decide)) sv_RX12_215 (sh hS rfl) rfl ⟨⟨by decide, by decide⟩, ⟨by decide, by decide⟩⟩ (Nat.le_of_ble_eq_true rfl) (fun r37 s37 p37 => ?_)
        obtain ⟨rfl, rfl⟩ := p37
        refine V_ifeqB (tgt := 77) dX12_number_40 (by decide) (fun br40 => ?_) (fun br40 => ?_)
        · refine V_mask [true, true, true, true] ?_
          have hd0 : dgF t n (m + 1) v e = (v, e) := if_neg (fun z => br40 ⟨by decide, z⟩)
          have hE : nuE t n c = e := by unfold nuE; rw [hd, hd0]
          exact fin _ v τ hF (by rw [hE]; exact e8) e9 e10 (by omega) (by omega) (by rw [hd, hd0])
        · have hlt := p.2.2.1 (by omega)
          have hd1 : dgF t n (m + 1) v e = dgF t n m (v * 10 + pk t n e - 48) (e + 1) := if_pos br40.2
          refine V_bipush dX12_number_43 (by decide) ?_
          refine V_iload_n dX12_number_45 rfl ?_
          refine V_imul dX12_number_46 ?_
          refine V_aload_n dX12_number_47 rfl ?_
          refine V_getfr dX12_number_48 sf_RX12_21 (by decide) (sh hS rfl) (rf hS rfl) ?_
          refine V_aload_n dX12_number_51 rfl ?_
          refine V_getfi dX12_number_52 sf_RX12_212 rfl (sh hS rfl) ?_
          refine V_val (show _ = e from e8) ?_
          refine V_iald dX12_number_55 (sh hS rfl) (by omega) ?_
          refine V_val (show _ = pk t n e from ((p.2.2.2 hlt).1).symm) ?_
          refine V_iadd dX12_number_56 ?_
          refine V_bipush dX12_number_57 (by decide) ?_
          refine V_isub dX12_number_59 ?_
          refine V_val (show 10 * v + pk t n e - 48 = v * 10 + pk t n e - 48 by rw [Int.mul_comm]) ?_
          refine V_istore_n dX12_number_60 (by decide) rfl ?_
          refine V_aload_n dX12_number_61 rfl ?_
          refine V_dup dX12_number_62 rfl ?_
          refine V_getfi dX12_number_63 sf_RX12_212 rfl (sh hS rfl) ?_
          refine V_val (show _ = e from e8) ?_
          refine V_iconst dX12_number_66 ?_
          refine V_iadd dX12_number_67 ?_
          refine V_puti dX12_number_68 (sp_RX12_212 _) rfl (sh hS rfl) ?_
          refine V_iinc dX12_number_71 rfl (by decide) rfl ?_
          refine V_goto (tgt := 27) dX12_number_74 (by decide) ?_
          refine V_mask [true, true, true, true] ?_
          exact ih (k + 1) _ (e + 1) _ (by omega) (hF.on77 _ (by decide)) (gG_is _ _ _ _) ((gG_ne _ _ (Or.inr (by decide))).trans e9) ((gG_ne _ _ (Or.inr (by decide))).trans e10) (by omega) (by omega) (by rw [hd, hd1])
  refine V_aload_n dX12_number_0 rfl ?_
  refine V_bipush dX12_number_1 (by decide) ?_
  refine V_bipush dX12_number_3 (by decide) ?_
  refine V_callV dX12_number_5 (c_mIsFrom g _ hS t n hT c (-1) h8 h9 hc (by decide) 45 45 (by decide) (by decide)) sv_RX12_215 (sh hS rfl) rfl ⟨⟨by decide, by decide⟩, ⟨by decide, by decide⟩⟩ (Nat.le_of_ble_eq_true rfl) (fun r5 s5 p5 => ?_)
  obtain ⟨rfl, rfl⟩ := p5
  refine V_val (show bI ((-1 : Int) < 0 ∧ (45 ≤ pk t n c ∧ pk t n c ≤ 45)) = bI (pk t n c = 45) from bI_eq (by omega)) ?_
  refine V_istore_n dX12_number_8 (by decide) rfl ?_
  refine V_iload_n dX12_number_9 rfl ?_
  refine V_ifeqB (tgt := 23) dX12_number_10 (by decide) (fun br10 => ?_) (fun br10 => ?_)
  · refine V_iconst dX12_number_23 ?_
    refine V_istore_n dX12_number_24 (by decide) rfl ?_
    refine V_iconst dX12_number_25 ?_
    refine V_istore_n dX12_number_26 (by decide) rfl ?_
    refine V_mask [true, true, true, true] ?_
    first
    | (have e : nuS t n c = c + 1 := if_pos br10
       exact loop 4 0 0 (c + 1) _ rfl ((LF.rf _ _).on77 _ (by decide)) (gG_is _ _ _ _) ((gG_ne _ _ (Or.inr (by decide))).trans h9) (gG_ne _ _ (Or.inr (by decide))) (by omega) (by omega) (by rw [e]))
    | (have e : nuS t n c = c := if_neg br10
       exact loop 4 0 0 c _ rfl (LF.rf _ _) h8 h9 rfl (by omega) (by omega) (by rw [e]))
  · refine V_aload_n dX12_number_13 rfl ?_
    refine V_dup dX12_number_14 rfl ?_
    refine V_getfi dX12_number_15 sf_RX12_212 rfl (sh hS rfl) ?_
    refine V_val (show _ = c from h8) ?_
    refine V_iconst dX12_number_18 ?_
    refine V_iadd dX12_number_19 ?_
    refine V_puti dX12_number_20 (sp_RX12_212 _) rfl (sh hS rfl) ?_
    refine V_iconst dX12_number_23 ?_
    refine V_istore_n dX12_number_24 (by decide) rfl ?_
    refine V_iconst dX12_number_25 ?_
    refine V_istore_n dX12_number_26 (by decide) rfl ?_
    refine V_mask [true, true, true, true] ?_
    first
    | (have e : nuS t n c = c + 1 := if_pos br10
       exact loop 4 0 0 (c + 1) _ rfl ((LF.rf _ _).on77 _ (by decide)) (gG_is _ _ _ _) ((gG_ne _ _ (Or.inr (by decide))).trans h9) (gG_ne _ _ (Or.inr (by decide))) (by omega) (by omega) (by rw [e]))
    | (have e : nuS t n c = c := if_neg br10
       exact loop 4 0 0 c _ rfl (LF.rf _ _) h8 h9 rfl (by omega) (by omega) (by rw [e]))