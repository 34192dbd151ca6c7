/-- the numbers of a statement from the j-th on, m of them: whether they stand there, the place behind; what they are -/
def nuC (t : Nat → Int) (n : Int) (j : Nat) (c : Int) : Int := if j = 0 then c else c + 1
def stF (t : Nat → Int) (n : Int) : Nat → Nat → Int → Bool × Int
  | 0, _, c => (true, c)
  | m + 1, j, c => if 0 < j ∧ pk t n c ≠ 44 then (false, c) else if nuS t n (nuC t n j c) < nuE t n (nuC t n j c) then stF t n m (j + 1) (nuE t n (nuC t n j c)) else (false, nuE t n (nuC t n j c))
def stV (t : Nat → Int) (n : Int) : Nat → Nat → Int → List Int
  | 0, _, _ => []
  | m + 1, j, c => nuV t n (nuC t n j c) :: stV t n m (j + 1) (nuE t n (nuC t n j c))
def stR (t : Nat → Int) (n c : Int) : Bool × Int := if hmN (pk t n c) = 0 then (false, c) else stF t n (hmN (pk t n c)).toNat 0 (c + 1)
def stL (t : Nat → Int) (n c : Int) : List Int := stV t n (hmN (pk t n c)).toNat 0 (c + 1)
/-- the tape's rows but those of statement k are as they were -/
def TF (k : Nat) (σ τ : St) : Prop := (gl τ = gl σ ∧ gn τ = gn σ ∧ gL τ = gL σ ∧ gP τ = gP σ) ∧ (∀ a, a ≠ 20 → a ≠ 22 → a ≠ 23 → a ≠ 25 + k → gG τ a = gG σ a) ∧ (∀ j, j ≠ k → gG τ 22 j = gG σ 22 j ∧ gG τ 23 j = gG σ 23 j) ∧ ∀ j, j ≠ 6 → gG τ 20 j = gG σ 20 j
theorem TF.rf (k : Nat) (σ : St) : TF k σ σ := ⟨⟨rfl, rfl, rfl, rfl⟩, fun _ _ _ _ _ => rfl, fun _ _ => ⟨rfl, rfl⟩, fun _ _ => rfl⟩
theorem TF.onG {k : Nat} {σ τ : St} (h : TF k σ τ) {a j : Nat} (v : Int) (hk : k < 27) (ha : (a = 20 ∧ j = 6) ∨ ((a = 22 ∨ a = 23) ∧ j = k) ∨ a = 25 + k) : TF k σ (setG τ a j v) :=
  ⟨h.1, fun b h1 h2 h3 h4 => (up1_ne _ (by omega) _).trans (h.2.1 b h1 h2 h3 h4), fun i hi => ⟨(gG_ne _ _ (by omega)).trans (h.2.2.1 i hi).1, (gG_ne _ _ (by omega)).trans (h.2.2.1 i hi).2⟩, fun i hi => (gG_ne _ _ (by omega)).trans (h.2.2.2 i hi)⟩
theorem TF.std {k : Nat} {σ τ : St} (h : TF k σ τ) (hS : Std σ) : Std τ := ⟨by rw [h.1.2.1]; exact hS.1, by rw [h.1.1]; exact hS.2.1, by rw [h.1.2.2.2]; exact hS.2.2⟩
theorem TF.tt {k : Nat} {σ τ : St} (h : TF k σ τ) {t : Nat → Int} {n : Int} (hT : TT σ t n) : TT τ t n := ⟨(h.2.2.2 4 (by decide)).trans hT.1, hT.2.1, fun j hj => by rw [h.2.1 21 (by decide) (by decide) (by decide) (by omega)]; exact hT.2.2 j hj⟩
def PSt (k : Nat) (σ : St) (t : Nat → Int) (n c : Int) : Option MV → St → Prop := fun r τ => r = some (vi (bI ((stR t n c).1 = true))) ∧ TF k σ τ ∧ gG τ 20 6 = (stR t n c).2 ∧ (0 ≤ (stR t n c).2 ∧ (stR t n c).2 ≤ n) ∧ ((stR t n c).1 = true → gG τ 22 k = pk t n c ∧ gG τ 23 k = c ∧ ∀ i, i < (hmN (pk t n c)).toNat → gG τ (25 + k) i = (stL t n c).getD i 0)
theorem hmN_b (l : Int) : 0 ≤ hmN l ∧ hmN l ≤ 4 := by
  unfold hmN
  (repeat' split) <;> omega
theorem pkLtN {t : Nat → Int} {n c l : Int} (h : pk t n c = l) (hl : l ≠ -1) : c < n := by
  unfold pk at h
  split at h <;> omega
theorem getD_drop {l : List Int} {j : Nat} {x : Int} {r : List Int} (h : l.drop j = x :: r) : l.getD j 0 = x ∧ l.drop (j + 1) = r := by
  have a : (l.drop j)[0]? = some x := by rw [h]; rfl
  rw [List.getElem?_drop] at a
  refine ⟨?_, ?_⟩
  · rw [List.getD_eq_getElem?_getD, show j = j + 0 from rfl, a]; rfl
  · rw [← List.drop_drop, h]; rfl
theorem c_parseStatement (g : Gl) (σ : St) (hS : Std σ) (t : Nat → Int) (n c : Int) (h : TT σ t n) (h6 : gG σ 20 6 = c) (hc : 0 ≤ c ∧ c ≤ n) (k : Nat) (hk : k < 27) : Ct g mX8_parseStatement 3 0 0 [vq (some 20), vi (k : Int)] σ (PSt k σ t n c) := by
  refine Ct.of (by decide +kernel) (Nat.le_of_ble_eq_true rfl) ?_
  have hS0 := hS
  have hn := h.2.1
  have pb := pk_b h hc.1
  have hb := hmN_b (pk t n c)
  have loop : ∀ (m j : Nat) (e : Int) (τ : St), ((j + m : Nat) : Int) = hmN (pk t n c) → TF k σ τ → gG τ 20 6 = e → 0 ≤ e ∧ e ≤ n → stR t n c = stF t n m j e → (stL t n c).drop j = stV t n m j e → gG τ 22 k = pk t n c → gG τ 23 k = c → (∀ i, i < j → gG τ (25 + k) i = (stL t n c).getD i 0) →
      V g mX8_parseStatement (rmD 3 0 0) (QM g 0 0 (PSt k σ t n c)) 46 [some (vq (some 20)), some (vi (k : Int)), none, some (vi (hmN (pk t n c))), some (vi (j : Int))] [] 0 0 τ := by
    intro m
    induction m with
    | zero =>
      intro j e τ hjm hF he heb hR hL h22 h23 hv
      have hS := hF.std hS0
      have r1 : (stR t n c).1 = true := by rw [hR]; rfl
      have r2 : (stR t n c).2 = e := by rw [hR]; rfl
      refine V_iload dX8_parseStatement_46 rfl ?_
      refine V_iload_n dX8_parseStatement_48 rfl ?_
      refine V_icmpge (tgt := 84) dX8_parseStatement_49 (by decide) (by omega) (by omega) (fun br49 => ?_) (fun br49 => ?_)
      · refine V_iconst dX8_parseStatement_84 ?_
        refine V_zret dX8_parseStatement_85 rfl (Nat.le_refl _) (Nat.le_refl _) (by first | omega | exact bI_01 _) ?_
        exact ⟨by rw [bI_t r1], hF, by rw [r2]; exact he, by rw [r2]; exact heb, fun _ => ⟨h22, h23, fun i hi => hv i (by omega)⟩⟩
      · omega
    | succ m ih =>
      intro j e τ hjm hF he heb hR hL h22 h23 hv
      have hS := hF.std hS0
      have hT := hF.tt h
      have go : ∀ (e1 : Int) (υ : St), e1 = nuC t n j e → ¬ (0 < j ∧ pk t n e ≠ 44) → e1 ≤ n → 0 ≤ e1 → TF k σ υ → gG υ 20 6 = e1 → gG υ 22 k = pk t n c → gG υ 23 k = c → (∀ i, i < j → gG υ (25 + k) i = (stL t n c).getD i 0) →
          V g mX8_parseStatement (rmD 3 0 0) (QM g 0 0 (PSt k σ t n c)) 66 [some (vq (some 20)), some (vi (k : Int)), none, some (vi (hmN (pk t n c))), some (vi (j : Int))] [] 0 0 υ := by
        intro e1 υ q1 q2 q3 q3b hF he h22 h23 hv
        have hS := hF.std hS0
        have hT := hF.tt h
        have sb := nuS_b (t := t) q3
        have eb := nuE_b (t := t) q3
        have r0 : stR t n c = if nuS t n e1 < nuE t n e1 then stF t n m (j + 1) (nuE t n e1) else (false, nuE t n e1) := by
          rw [hR, q1]
          show (if _ then _ else _) = _
          rw [if_neg q2]
        have v0 := getD_drop (show (stL t n c).drop j = nuV t n e1 :: stV t n m (j + 1) (nuE t n e1) by rw [hL, q1]; rfl)
        refine V_aload_n dX8_parseStatement_66 rfl ?_
        refine V_iload_n dX8_parseStatement_67 rfl ?_
        refine V_iload dX8_parseStatement_68 rfl ?_
        refine V_callV dX8_parseStatement_70 (c_parseNumber g _ hS t n e1 hT he ⟨q3b, q3⟩ k j hk (by omega)) sv_RX8_52 (sh hS rfl) rfl ⟨⟨by decide, by decide⟩, ⟨by decide, by decide⟩⟩ (Nat.le_of_ble_eq_true rfl) (fun r70 s70 p70 => ?_)
        obtain ⟨rfl, rfl⟩ := p70
        have hF2 : TF k σ (setG (setG υ 20 6 (nuE t n e1)) (25 + k) j (nuV t n e1)) := (hF.onG _ hk (Or.inl ⟨rfl, rfl⟩)).onG _ hk (Or.inr (Or.inr rfl))
        have k6 : gG (setG (setG υ 20 6 (nuE t n e1)) (25 + k) j (nuV t n e1)) 20 6 = nuE t n e1 := (gG_ne _ _ (by omega)).trans (gG_is _ _ _ _)
        refine V_ifneB (tgt := 78) dX8_parseStatement_73 (by decide) (fun br73 => ?_) (fun br73 => ?_)
        · refine V_iinc dX8_parseStatement_78 rfl (by decide) rfl ?_
          refine V_goto (tgt := 46) dX8_parseStatement_81 (by decide) ?_
          refine V_mask [true, true, false, true, true] ?_
          refine ih (j + 1) (nuE t n e1) _ (by omega) hF2 k6 (by omega) (by rw [r0, if_pos br73]) v0.2 ((gG_ne _ _ (by omega)).trans ((gG_ne _ _ (by omega)).trans h22)) ((gG_ne _ _ (by omega)).trans ((gG_ne _ _ (by omega)).trans h23)) (fun i hi => ?_)
          by_cases q : i = j
          · subst q; exact (gG_is _ _ _ _).trans v0.1.symm
          · exact (gG_ne _ _ (Or.inr q)).trans ((gG_ne _ _ (by omega)).trans (hv i (by omega)))
        · refine V_iconst dX8_parseStatement_76 ?_
          refine V_zret dX8_parseStatement_77 rfl (Nat.le_refl _) (Nat.le_refl _) (by first | omega | exact bI_01 _) ?_
          have r1 : stR t n c = (false, nuE t n e1) := by rw [r0, if_neg br73]
          exact ⟨by rw [r1]; exact congrArg some (by rw [bI_f (fun z => absurd (show false = true from z) (by decide))]), hF2, by rw [r1]; exact k6, by rw [r1]; exact ⟨by show 0 ≤ nuE t n e1; omega, by show nuE t n e1 ≤ n; omega⟩, fun z => by rw [r1] at z; cases z⟩
      refine V_iload dX8_parseStatement_46 rfl ?_
      refine V_iload_n dX8_parseStatement_48 rfl ?_
      refine V_icmpge (tgt := 84) dX8_parseStatement_49 (by decide) (by omega) (by omega) (fun br49 => ?_) (fun br49 => ?_)
      · omega
      · refine V_iload dX8_parseStatement_52 rfl ?_
        refine V_ifle (tgt := 66) dX8_parseStatement_54 (by decide) (by omega) (fun br54 => ?_) (fun br54 => ?_)
        · refine V_mask [true, true, false, true, true] ?_
          first
          | (have hlt := pkLtN br63 (by decide)
             rw [if_pos br63]
             exact go (e + 1) _ (by unfold nuC; rw [if_neg (by omega)]) (fun z => z.2 br63) (by omega) (by omega) (hF.onG _ hk (Or.inl ⟨rfl, rfl⟩)) (gG_is _ _ _ _) ((gG_ne _ _ (by omega)).trans h22) ((gG_ne _ _ (by omega)).trans h23) (fun i hi => (gG_ne _ _ (by omega)).trans (hv i hi)))
          | exact go e _ (by unfold nuC; rw [if_pos (by omega)]) (fun z => by omega) heb.2 heb.1 hF he h22 h23 hv
        · refine V_aload_n dX8_parseStatement_57 rfl ?_
          refine V_bipush dX8_parseStatement_58 (by decide) ?_
          refine V_callV dX8_parseStatement_60 (c_pass g _ hS t n e 44 hT he (by omega) (by decide)) sv_RX8_41 (sh hS rfl) rfl ⟨⟨by decide, by decide⟩, ⟨by decide, by decide⟩⟩ (Nat.le_of_ble_eq_true rfl) (fun r60 s60 p60 => ?_)
          obtain ⟨rfl, rfl⟩ := p60
          refine V_ifeqB (tgt := 76) dX8_parseStatement_63 (by decide) (fun br63 => ?_) (fun br63 => ?_)
          · refine V_iconst dX8_parseStatement_76 ?_
            refine V_zret dX8_parseStatement_77 rfl (Nat.le_refl _) (Nat.le_refl _) (by first | omega | exact bI_01 _) ?_
            have r1 : stR t n c = (false, e) := by
              rw [hR]
              exact if_pos ⟨by omega, br63⟩
            rw [if_neg br63, setG_id he]
            exact ⟨by rw [r1]; exact congrArg some (by rw [bI_f (fun z => absurd (show false = true from z) (by decide))]), hF, by rw [r1]; exact he, by rw [r1]; exact heb, fun z => by rw [r1] at z; cases z⟩
          · refine V_mask [true, true, false, true, true] ?_
            first
            | (have hlt := pkLtN br63 (by decide)
               rw [if_pos br63]
               exact go (e + 1) _ (by unfold nuC; rw [if_neg (by omega)]) (fun z => z.2 br63) (by omega) (by omega) (hF.onG _ hk (Or.inl ⟨rfl, rfl⟩)) (gG_is _ _ _ _) ((gG_ne _ _ (by omega)).trans h22) ((gG_ne _ _ (by omega)).trans h23) (fun i hi => (gG_ne _ _ (by omega)).trans (hv i hi)))
            | exact go e _ (by unfold nuC; rw [if_pos (by omega)]) (fun z => by omega) heb.2 heb.1 hF he h22 h23 hv
  refine V_aload_n dX8_parseStatement_0 rfl ?_
  refine V_callV dX8_parseStatement_1 (c_peek g _ hS t n c h h6 (by omega)) sv_RX8_44 (sh hS rfl) rfl ⟨⟨by decide, by decide⟩, ⟨by decide, by decide⟩⟩ (Nat.le_of_ble_eq_true rfl) (fun r1 s1 p1 => ?_)
  obtain ⟨rfl, rfl⟩ := p1
  refine V_istore_n dX8_parseStatement_4 (by decide) rfl ?_
  refine V_iload_n dX8_parseStatement_5 rfl ?_
  refine V_callS dX8_parseStatement_6 (c_howManyNumbers g _ (pk t n c) (by omega)) ss_RX8_48 rfl ⟨⟨by decide, by decide⟩, ⟨by decide, by decide⟩⟩ (Nat.le_of_ble_eq_true rfl) (fun r6 s6 p6 => ?_)
  obtain ⟨rfl, rfl⟩ := p6
  refine V_istore_n dX8_parseStatement_9 (by decide) rfl ?_
  refine V_iload_n dX8_parseStatement_10 rfl ?_
  refine V_ifne (tgt := 16) dX8_parseStatement_11 (by decide) (by omega) (fun br11 => ?_) (fun br11 => ?_)
  · refine V_aload_n dX8_parseStatement_16 rfl ?_
    refine V_getfr dX8_parseStatement_17 sf_RX8_15 (by decide) (sh hS rfl) (rf hS rfl) ?_
    refine V_iload_n dX8_parseStatement_20 rfl ?_
    refine V_iload_n dX8_parseStatement_21 rfl ?_
    refine V_iast dX8_parseStatement_22 (sh hS rfl) (by omega) ?_
    refine V_aload_n dX8_parseStatement_23 rfl ?_
    refine V_getfr dX8_parseStatement_24 sf_RX8_19 (by decide) (sh hS rfl) (rf hS rfl) ?_
    refine V_iload_n dX8_parseStatement_27 rfl ?_
    refine V_aload_n dX8_parseStatement_28 rfl ?_
    refine V_getfi dX8_parseStatement_29 sf_RX8_31 rfl (sh hS rfl) ?_
    refine V_val (show gG (setG σ 22 (k : Int).toNat (pk t n c)) 20 6 = c from (gG_ne _ _ (Or.inl (by decide))).trans h6) ?_
    refine V_iast dX8_parseStatement_32 (sh hS rfl) (by omega) ?_
    refine V_aload_n dX8_parseStatement_33 rfl ?_
    refine V_dup dX8_parseStatement_34 rfl ?_
    refine V_getfi dX8_parseStatement_35 sf_RX8_31 rfl (sh hS rfl) ?_
    refine V_val (show _ = c from (gG_ne _ _ (Or.inl (by decide))).trans ((gG_ne _ _ (Or.inl (by decide))).trans h6)) ?_
    refine V_iconst dX8_parseStatement_38 ?_
    refine V_iadd dX8_parseStatement_39 ?_
    refine V_puti dX8_parseStatement_40 (sp_RX8_31 _) rfl (sh hS rfl) ?_
    refine V_iconst dX8_parseStatement_43 ?_
    refine V_istore dX8_parseStatement_44 (by decide) rfl ?_
    refine V_mask [true, true, false, true, true] ?_
    rw [Int.toNat_natCast]
    have hm : hmN (pk t n c) ≠ 0 := by omega
    have hlt : c < n := by
      rcases Int.lt_or_le c n with q | q
      · exact q
      · exfalso
        have : pk t n c = -1 := by unfold pk; rw [if_neg (by omega)]
        rw [this] at hm
        exact hm rfl
    exact loop (hmN (pk t n c)).toNat 0 (c + 1) _ (by omega) (((( TF.rf k σ).onG _ hk (Or.inr (Or.inl ⟨Or.inl rfl, rfl⟩))).onG _ hk (Or.inr (Or.inl ⟨Or.inr rfl, rfl⟩))).onG _ hk (Or.inl ⟨rfl, rfl⟩)) (gG_is _ _ _ _) (by omega) (if_neg hm) rfl ((gG_ne _ _ (Or.inl (by decide))).trans ((gG_ne _ _ (Or.inl (by decide))).trans (gG_is _ _ _ _))) ((gG_ne _ _ (Or.inl (by decide))).trans (gG_is _ _ _ _)) (fun i hi => absurd hi (Nat.not_lt_zero i))
  · refine V_iconst dX8_parseStatement_14 ?_
    refine V_zret dX8_parseStatement_15 rfl (Nat.le_refl _) (Nat.le_refl _) (by first | omega | exact bI_01 _) ?_
    have r1 : stR t n c = (false, c) := if_pos (by omega)
    exact ⟨by rw [r1]; exact congrArg some (by rw [bI_f (fun z => absurd (show false = true from z) (by decide))]), TF.rf k σ, by rw [r1]; exact h6, by rw [r1]; exact hc, fun z => by rw [r1] at z; cases z⟩