/-! the tape is read: single letters, numbers -/
def pk (t : Nat → Int) (n c : Int) : Int := if c < n then t c.toNat else -1
def TT (σ : St) (t : Nat → Int) (n : Int) : Prop := gG σ 20 4 = n ∧ (0 ≤ n ∧ n ≤ 80) ∧ ∀ k : Nat, (k : Int) < n → gG σ 21 k = t k ∧ 0 ≤ t k ∧ t k ≤ 127
theorem TT.onG {σ : St} {t : Nat → Int} {n : Int} (h : TT σ t n) {a k : Nat} (v : Int) (h1 : a ≠ 21) (h2 : a ≠ 20 ∨ k ≠ 4) : TT (setG σ a k v) t n := ⟨(gG_ne _ _ (by omega)).trans h.1, h.2.1, fun j hj => ⟨(gG_ne _ _ (Or.inl (Ne.symm h1))).trans (h.2.2 j hj).1, (h.2.2 j hj).2⟩⟩
theorem pk_b {σ : St} {t : Nat → Int} {n : Int} (h : TT σ t n) {c : Int} (hc : 0 ≤ c) : -1 ≤ pk t n c ∧ pk t n c ≤ 127 := by
  unfold pk
  split
  · have := (h.2.2 c.toNat (by omega)).2
    omega
  · omega
theorem setG_id {σ : St} {a k : Nat} {v : Int} (h : gG σ a k = v) : setG σ a k v = σ := by
  subst h
  unfold setG
  rw [up1_same]
  exact setA_same σ a
theorem setG_2 (σ : St) (a k : Nat) (u v : Int) : setG (setG σ a k u) a k v = setG σ a k v := by
  show setG (setA σ a (up1 (gG σ a) k u)) a k v = setA σ a (up1 (gG σ a) k v)
  rw [setG_A, up1_up1]
theorem c_peek (g : Gl) (σ : St) (hS : Std σ) (t : Nat → Int) (n c : Int) (h : TT σ t n) (h6 : gG σ 20 6 = c) (hc : 0 ≤ c ∧ c ≤ 80) : Ct g mX8_peek 0 0 0 [vq (some 20)] σ (rP (vi (pk t n c)) σ) := by
  refine Ct.of (by decide +kernel) (Nat.le_of_ble_eq_true rfl) ?_
  have hn := h.2.1
  refine V_aload_n dX8_peek_0 rfl ?_
  refine V_getfi dX8_peek_1 sf_RX8_31 rfl (sh hS rfl) ?_
  refine V_val h6 ?_
  refine V_aload_n dX8_peek_4 rfl ?_
  refine V_getfi dX8_peek_5 sf_RX8_27 rfl (sh hS rfl) ?_
  refine V_val h.1 ?_
  refine V_icmpge (tgt := 23) dX8_peek_8 (by decide) (by omega) (by omega) (fun br8 => ?_) (fun br8 => ?_)
  · refine V_iconst dX8_peek_23 ?_
    refine V_iret dX8_peek_24 rfl (Nat.le_refl _) (Nat.le_refl _) ?_
    first | exact rP_i (if_pos (by omega)).symm rfl | exact rP_i (if_neg (by omega)).symm rfl
  · refine V_aload_n dX8_peek_11 rfl ?_
    refine V_getfr dX8_peek_12 sf_RX8_9 (by decide) (sh hS rfl) (rf hS rfl) ?_
    refine V_aload_n dX8_peek_15 rfl ?_
    refine V_getfi dX8_peek_16 sf_RX8_31 rfl (sh hS rfl) ?_
    refine V_val h6 ?_
    refine V_bald dX8_peek_19 (sh hS rfl) (by omega) ?_
    refine V_val (h.2.2 c.toNat (by omega)).1 ?_
    refine V_goto (tgt := 24) dX8_peek_20 (by decide) ?_
    refine V_iret dX8_peek_24 rfl (Nat.le_refl _) (Nat.le_refl _) ?_
    first | exact rP_i (if_pos (by omega)).symm rfl | exact rP_i (if_neg (by omega)).symm rfl
theorem c_pass (g : Gl) (σ : St) (hS : Std σ) (t : Nat → Int) (n c l : Int) (h : TT σ t n) (h6 : gG σ 20 6 = c) (hc : 0 ≤ c ∧ c ≤ 80) (hl : inR l) : Ct g mX8_pass 1 0 0 [vq (some 20), vi l] σ (fun r τ => r = some (vi (bI (pk t n c = l))) ∧ τ = setG σ 20 6 (if pk t n c = l then c + 1 else c)) := by
  refine Ct.of (by decide +kernel) (Nat.le_of_ble_eq_true rfl) ?_
  have hb := pk_b h hc.1
  refine V_aload_n dX8_pass_0 rfl ?_
  refine V_callV dX8_pass_1 (c_peek g _ hS t n c h h6 hc) sv_RX8_44 (sh hS rfl) rfl ⟨⟨by decide, by decide⟩, ⟨by decide, by decide⟩⟩ (Nat.le_of_ble_eq_true rfl) (fun r1 s1 p1 => ?_)
  obtain ⟨rfl, rfl⟩ := p1
  refine V_iload_n dX8_pass_4 rfl ?_
  refine V_icmpeq (tgt := 10) dX8_pass_5 (by decide) (by omega) (by omega) (fun br5 => ?_) (fun br5 => ?_)
  · refine V_aload_n dX8_pass_10 rfl ?_
    refine V_dup dX8_pass_11 rfl ?_
    refine V_getfi dX8_pass_12 sf_RX8_31 rfl (sh hS rfl) ?_
    refine V_val h6 ?_
    refine V_iconst dX8_pass_15 ?_
    refine V_iadd dX8_pass_16 ?_
    refine V_puti dX8_pass_17 (sp_RX8_31 _) rfl (sh hS rfl) ?_
    refine V_iconst dX8_pass_20 ?_
    refine V_zret dX8_pass_21 rfl (Nat.le_refl _) (Nat.le_refl _) (by first | omega | exact bI_01 _) ?_
    exact ⟨by rw [bI_t br5], by rw [if_pos br5]⟩
  · refine V_iconst dX8_pass_8 ?_
    refine V_zret dX8_pass_9 rfl (Nat.le_refl _) (Nat.le_refl _) (by first | omega | exact bI_01 _) ?_
    exact ⟨by rw [bI_f br5], by rw [if_neg br5, setG_id h6]⟩
def hmN (l : Int) : Int := if l = 115 then 4 else if l = 104 then 3 else if l = 98 ∨ l = 103 ∨ l = 116 then 1 else 0
theorem c_howManyNumbers (g : Gl) (σ : St) (l : Int) (hl : inR l) : Ct g mX8_howManyNumbers 0 0 0 [vi l] σ (rP (vi (hmN l)) σ) := by
  refine Ct.of (by decide +kernel) (Nat.le_of_ble_eq_true rfl) ?_
  refine V_iload_n dX8_howManyNumbers_0 rfl ?_
  refine V_lsw5 (td := 58) (t0 := 56) (t1 := 56) (t2 := 54) (t3 := 52) (t4 := 56) dX8_howManyNumbers_1 (by omega) rfl (by decide) (by decide) (by decide) (by decide) (by decide) (by decide) (fun br1_0 br1_1 br1_2 br1_3 br1_4 => ?_) (fun br1 => ?_) (fun br1 => ?_) (fun br1 => ?_) (fun br1 => ?_) (fun br1 => ?_)
  · refine V_iconst dX8_howManyNumbers_58 ?_
    refine V_iret dX8_howManyNumbers_59 rfl (Nat.le_refl _) (Nat.le_refl _) ?_
    exact rP_i (by unfold hmN; (repeat' split) <;> omega) rfl
  · refine V_iconst dX8_howManyNumbers_56 ?_
    refine V_iret dX8_howManyNumbers_57 rfl (Nat.le_refl _) (Nat.le_refl _) ?_
    exact rP_i (by unfold hmN; (repeat' split) <;> omega) rfl
  · refine V_iconst dX8_howManyNumbers_56 ?_
    refine V_iret dX8_howManyNumbers_57 rfl (Nat.le_refl _) (Nat.le_refl _) ?_
    exact rP_i (by unfold hmN; (repeat' split) <;> omega) rfl
  · refine V_iconst dX8_howManyNumbers_54 ?_
    refine V_iret dX8_howManyNumbers_55 rfl (Nat.le_refl _) (Nat.le_refl _) ?_
    exact rP_i (by unfold hmN; (repeat' split) <;> omega) rfl
  · refine V_iconst dX8_howManyNumbers_52 ?_
    refine V_iret dX8_howManyNumbers_53 rfl (Nat.le_refl _) (Nat.le_refl _) ?_
    exact rP_i (by unfold hmN; (repeat' split) <;> omega) rfl
  · refine V_iconst dX8_howManyNumbers_56 ?_
    refine V_iret dX8_howManyNumbers_57 rfl (Nat.le_refl _) (Nat.le_refl _) ?_
    exact rP_i (by unfold hmN; (repeat' split) <;> omega) rfl
def dgF (t : Nat → Int) (n : Int) : Nat → Int → Int → Int × Int
  | 0, v, c => (v, c)
  | m + 1, v, c => if 48 ≤ pk t n c ∧ pk t n c ≤ 57 then dgF t n m (v * 10 + pk t n c - 48) (c + 1) else (v, c)
theorem dgF_b {t : Nat → Int} {n : Int} : ∀ (m : Nat) (v c : Int), c ≤ n → c ≤ (dgF t n m v c).2 ∧ (dgF t n m v c).2 ≤ c + m ∧ (dgF t n m v c).2 ≤ n
  | 0, v, c, h => by unfold dgF; omega
  | m + 1, v, c, h => by
    unfold dgF
    split
    · rename_i q
      have hc : c < n := by
        unfold pk at q
        split at q <;> omega
      have := dgF_b (t := t) (n := n) m (v * 10 + pk t n c - 48) (c + 1) (by omega)
      omega
    · show c ≤ c ∧ c ≤ c + ((m + 1 : Nat) : Int) ∧ c ≤ n
      omega
/-- where a number's digits begin; its value, the place behind it -/
def nuS (t : Nat → Int) (n c : Int) : Int := if pk t n c = 45 then c + 1 else c
def nuV (t : Nat → Int) (n c : Int) : Int := if pk t n c = 45 then -(dgF t n 4 0 (nuS t n c)).1 else (dgF t n 4 0 (nuS t n c)).1
def nuE (t : Nat → Int) (n c : Int) : Int := (dgF t n 4 0 (nuS t n c)).2
theorem nuS_b {t : Nat → Int} {n c : Int} (h : c ≤ n) : c ≤ nuS t n c ∧ nuS t n c ≤ n := by
  unfold nuS
  split
  · rename_i q
    unfold pk at q
    split at q <;> omega
  · omega
theorem nuE_b {t : Nat → Int} {n c : Int} (h : c ≤ n) : nuS t n c ≤ nuE t n c ∧ nuE t n c ≤ n ∧ nuE t n c ≤ nuS t n c + 4 := by
  have := dgF_b (t := t) (n := n) 4 0 (nuS t n c) (nuS_b h).2
  unfold nuE
  omega
theorem ref24 : ∀ k, k < 27 → refF 24 k = some (25 + k) := by decide
theorem lay25 : ∀ k, k < 27 → layF (25 + k) = some (.inr (0, 4)) := by decide
theorem c_parseNumber (g : Gl) (σ : St) (hS : Std σ) (t : Nat → Int) (n c : Int) (h : TT σ t n) (h6 : gG σ 20 6 = c) (hc : 0 ≤ c ∧ c ≤ n) (k j : Nat) (hk : k < 27) (hj : j < 4) :
    Ct g mX8_parseNumber 2 0 0 [vq (some 20), vi (k : Int), vi (j : Int)] σ (fun r τ => r = some (vi (bI (nuS t n c < nuE t n c))) ∧ τ = setG (setG σ 20 6 (nuE t n c)) (25 + k) j (nuV t n c)) := by
  refine Ct.of (by decide +kernel) (Nat.le_of_ble_eq_true rfl) ?_
  have hn := h.2.1
  have sb := nuS_b (t := t) hc.2
  have eb := nuE_b (t := t) hc.2
  have tail : V g mX8_parseNumber (rmD 2 0 0) (QM g 0 0 (fun r τ => r = some (vi (bI (nuS t n c < nuE t n c))) ∧ τ = setG (setG σ 20 6 (nuE t n c)) (25 + k) j (nuV t n c))) 64 [some (vq (some 20)), some (vi (k : Int)), some (vi (j : Int)), some (vi (bI (pk t n c = 45))), some (vi (dgF t n 4 0 (nuS t n c)).1), some (vi (nuE t n c - nuS t n c))] [] 0 0 (setG σ 20 6 (nuE t n c)) := by
    have fin : ∀ x : Int, x = nuV t n c → V g mX8_parseNumber (rmD 2 0 0) (QM g 0 0 (fun r τ => r = some (vi (bI (nuS t n c < nuE t n c))) ∧ τ = setG (setG σ 20 6 (nuE t n c)) (25 + k) j (nuV t n c))) 83 [some (vq (some 20)), some (vi (k : Int)), some (vi (j : Int)), some (vi (bI (pk t n c = 45))), some (vi (dgF t n 4 0 (nuS t n c)).1), some (vi (nuE t n c - nuS t n c))] [vi x, vi (j : Int), vq (some (25 + k))] 0 0 (setG σ 20 6 (nuE t n c)) := by
      intro x hx
      subst hx
      refine V_iast dX8_parseNumber_83 (sh hS (lay25 k hk)) (by omega) ?_
      refine V_iload dX8_parseNumber_84 rfl ?_
      refine V_ifle (tgt := 93) dX8_parseNumber_86 (by decide) (by omega) (fun br86 => ?_) (fun br86 => ?_)
      · refine V_iconst dX8_parseNumber_93 ?_
        refine V_zret dX8_parseNumber_94 rfl (Nat.le_refl _) (Nat.le_refl _) (by first | omega | exact bI_01 _) ?_
        first
          | exact ⟨by rw [bI_t (by omega)], rfl⟩
          | exact ⟨by rw [bI_f (by omega)], rfl⟩
      · refine V_iconst dX8_parseNumber_89 ?_
        refine V_goto (tgt := 94) dX8_parseNumber_90 (by decide) ?_
        refine V_zret dX8_parseNumber_94 rfl (Nat.le_refl _) (Nat.le_refl _) (by first | omega | exact bI_01 _) ?_
        first
          | exact ⟨by rw [bI_t (by omega)], rfl⟩
          | exact ⟨by rw [bI_f (by omega)], rfl⟩
    refine V_aload_n dX8_parseNumber_64 rfl ?_
    refine V_getfr dX8_parseNumber_65 sf_RX8_24 (by decide) (sh hS rfl) (rf hS rfl) ?_
    refine V_iload_n dX8_parseNumber_68 rfl ?_
    refine V_aald dX8_parseNumber_69 (sh hS rfl) (by decide) (by omega) (rf hS (ref24 k hk)) ?_
    refine V_iload_n dX8_parseNumber_70 rfl ?_
    refine V_iload_n dX8_parseNumber_71 rfl ?_
    refine V_ifeqB (tgt := 81) dX8_parseNumber_72 (by decide) (fun br72 => ?_) (fun br72 => ?_)
    · refine V_iload dX8_parseNumber_81 rfl ?_
      first
        | exact fin _ (if_pos br72).symm
        | exact fin _ (if_neg br72).symm
    · refine V_iload dX8_parseNumber_75 rfl ?_
      refine V_ineg dX8_parseNumber_77 ?_
      refine V_goto (tgt := 83) dX8_parseNumber_78 (by decide) ?_
      first
        | exact fin _ (if_pos br72).symm
        | exact fin _ (if_neg br72).symm
  have loop : ∀ (m : Nat) (d v e : Int), d + m = 4 → 0 ≤ d → nuS t n c ≤ e → e ≤ n → d = e - nuS t n c → dgF t n 4 0 (nuS t n c) = dgF t n m v e → V g mX8_parseNumber (rmD 2 0 0) (QM g 0 0 (fun r τ => r = some (vi (bI (nuS t n c < nuE t n c))) ∧ τ = setG (setG σ 20 6 (nuE t n c)) (25 + k) j (nuV t n c))) 13 [some (vq (some 20)), some (vi (k : Int)), some (vi (j : Int)), some (vi (bI (pk t n c = 45))), some (vi v), some (vi d)] [] 0 0 (setG σ 20 6 e) := by
    intro m
    induction m with
    | zero =>
      intro d v e h1 h2 h3 h4 h5 h6
      have e1 : (dgF t n 4 0 (nuS t n c)).1 = v := by rw [h6]; rfl
      have e2 : nuE t n c = e := by unfold nuE; rw [h6]; rfl
      refine V_iload dX8_parseNumber_13 rfl ?_
      refine V_iconst dX8_parseNumber_15 ?_
      refine V_icmpge (tgt := 64) dX8_parseNumber_16 (by decide) (by omega) (by omega) (fun br16 => ?_) (fun br16 => ?_)
      · refine V_mask [true, true, true, true, true, true] ?_
        rw [e1, e2, ← h5] at tail
        rw [e2]
        exact tail
      · omega
    | succ m ih =>
      intro d v e h1 h2 h3 h4 h5 h6
      have hT : TT (setG σ 20 6 e) t n := h.onG _ (by decide) (Or.inr (by decide))
      have pb := pk_b h (c := e) (by omega)
      refine V_iload dX8_parseNumber_13 rfl ?_
      refine V_iconst dX8_parseNumber_15 ?_
      refine V_icmpge (tgt := 64) dX8_parseNumber_16 (by decide) (by omega) (by omega) (fun br16 => ?_) (fun br16 => ?_)
      · omega
      · refine V_aload_n dX8_parseNumber_19 rfl ?_
        refine V_callV dX8_parseNumber_20 (c_peek g (setG σ 20 6 e) hS t n e hT (gG_is _ _ _ _) (by omega)) sv_RX8_44 (sh hS rfl) rfl ⟨⟨by decide, by decide⟩, ⟨by decide, by decide⟩⟩ (Nat.le_of_ble_eq_true rfl) (fun r20 s20 p20 => ?_)
        obtain ⟨rfl, rfl⟩ := p20
        refine V_bipush dX8_parseNumber_23 (by decide) ?_
        refine V_bipush dX8_parseNumber_25 (by decide) ?_
        refine V_callS dX8_parseNumber_27 (c_isIn g _ _ _ _ (by omega) (by omega) (by omega)) ss_RX8_56 rfl ⟨⟨by decide, by decide⟩, ⟨by decide, by decide⟩⟩ (Nat.le_of_ble_eq_true rfl) (fun r27 s27 p27 => ?_)
        obtain ⟨rfl, rfl⟩ := p27
        refine V_ifeqB (tgt := 64) dX8_parseNumber_30 (by decide) (fun br30 => ?_) (fun br30 => ?_)
        · refine V_mask [true, true, true, true, true, true] ?_
          have e0 : dgF t n (m + 1) v e = (v, e) := if_neg br30
          have e1 : (dgF t n 4 0 (nuS t n c)).1 = v := by rw [h6, e0]
          have e2 : nuE t n c = e := by unfold nuE; rw [h6, e0]
          rw [e1, e2, ← h5] at tail
          rw [e2]
          exact tail
        · refine V_iload dX8_parseNumber_33 rfl ?_
          refine V_bipush dX8_parseNumber_35 (by decide) ?_
          refine V_imul dX8_parseNumber_37 ?_
          refine V_aload_n dX8_parseNumber_38 rfl ?_
          refine V_callV dX8_parseNumber_39 (c_peek g (setG σ 20 6 e) hS t n e hT (gG_is _ _ _ _) (by omega)) sv_RX8_44 (sh hS rfl) rfl ⟨⟨by decide, by decide⟩, ⟨by decide, by decide⟩⟩ (Nat.le_of_ble_eq_true rfl) (fun r39 s39 p39 => ?_)
          obtain ⟨rfl, rfl⟩ := p39
          refine V_iadd dX8_parseNumber_42 ?_
          refine V_bipush dX8_parseNumber_43 (by decide) ?_
          refine V_isub dX8_parseNumber_45 ?_
          refine V_istore dX8_parseNumber_46 (by decide) rfl ?_
          refine V_iinc dX8_parseNumber_48 rfl (by decide) rfl ?_
          refine V_aload_n dX8_parseNumber_51 rfl ?_
          refine V_dup dX8_parseNumber_52 rfl ?_
          refine V_getfi dX8_parseNumber_53 sf_RX8_31 rfl (sh hS rfl) ?_
          refine V_val (gG_is _ _ _ _) ?_
          refine V_iconst dX8_parseNumber_56 ?_
          refine V_iadd dX8_parseNumber_57 ?_
          refine V_puti dX8_parseNumber_58 (sp_RX8_31 _) rfl (sh hS rfl) ?_
          refine V_goto (tgt := 13) dX8_parseNumber_61 (by decide) ?_
          refine V_mask [true, true, true, true, true, true] ?_
          have e0 : dgF t n (m + 1) v e = dgF t n m (v * 10 + pk t n e - 48) (e + 1) := if_pos br30
          have hlt : e < n := by
            have q := br30
            unfold pk at q
            split at q <;> omega
          refine V_sta (setG_2 _ _ _ _ _) (ih (d + 1) _ (e + 1) (by omega) (by omega) (by omega) (by omega) (by omega) (h6.trans e0))
  refine V_aload_n dX8_parseNumber_0 rfl ?_
  refine V_bipush dX8_parseNumber_1 (by decide) ?_
  refine V_callV dX8_parseNumber_3 (c_pass g _ hS t n c 45 h h6 (by omega) (by decide)) sv_RX8_41 (sh hS rfl) rfl ⟨⟨by decide, by decide⟩, ⟨by decide, by decide⟩⟩ (Nat.le_of_ble_eq_true rfl) (fun r3 s3 p3 => ?_)
  obtain ⟨rfl, rfl⟩ := p3
  refine V_istore_n dX8_parseNumber_6 (by decide) rfl ?_
  refine V_iconst dX8_parseNumber_7 ?_
  refine V_istore dX8_parseNumber_8 (by decide) rfl ?_
  refine V_iconst dX8_parseNumber_10 ?_
  refine V_istore dX8_parseNumber_11 (by decide) rfl ?_
  refine V_mask [true, true, true, true, true, true] ?_
  exact loop 4 0 0 (nuS t n c) rfl (Int.le_refl _) (Int.le_refl _) sb.2 (by omega) rfl