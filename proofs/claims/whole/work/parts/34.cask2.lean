/-- where each hoop rests, what they press together -/
def depL (w : Nat → Int) : Nat → Nat → Int
  | 0 => fun _ => 0
  | n + 1 => fun j => if j = n then rst w (w (58 + n)) (far w (w (64 + n)) (depL w n) n) else depL w n j
def dep (w : Nat → Int) (j : Nat) : Int := depL w (j + 1) j
theorem depL_dep {w : Nat → Int} {j : Nat} : ∀ n : Nat, j < n → depL w n j = dep w j
  | 0, h => absurd h (Nat.not_lt_zero j)
  | n + 1, h => by
    by_cases e : j = n
    · subst e; rfl
    · rw [← depL_dep n (by omega)]
      show (if j = n then _ else _) = _
      rw [if_neg e]
theorem dep_is (w : Nat → Int) (n : Nat) : dep w n = rst w (w (58 + n)) (far w (w (64 + n)) (dep w) n) := by
  rw [← far_cong n (fun j hj => depL_dep n hj)]
  show (if n = n then _ else _) = _
  rw [if_pos rfl]
theorem dep_b (w : Nat → Int) (n : Nat) : dep w n = -5 ∨ (0 ≤ dep w n ∧ dep w n ≤ 4) := by
  rw [dep_is]
  exact rst_b _ _ _
def hprF (w : Nat → Int) (n : Nat) (h : Int) : Int := if dep w n = -5 then 0 else prF (hgt (dep w n) (w (64 + n))) (pressK (w (52 + n)) (grp w (dep w n) (w (58 + n)))) h
def prs (w : Nat → Int) : Nat → Nat → Int
  | 0, _ => 0
  | n + 1, h => prs w n h + hprF w n h
def nH (w : Nat → Int) : Nat := (w 5).toNat
theorem hprF_b {w : Nat → Int} (hW : WF w) {n : Nat} (hn : (n : Int) < w 5) {h : Nat} (hh : h < 9) : 0 ≤ hprF w n h ∧ hprF w n h ≤ 1003 := by
  have k := hW.h hn
  unfold hprF
  split
  · omega
  · have d := dep_b w n
    have gb := grp_b hW (h := dep w n) (size := w (58 + n)) (by omega) (by omega)
    have pb := pressK_b (k := w (52 + n)) gb
    have hb := hgt_b (d := dep w n) (s := w (64 + n)) (by omega)
    have := prF_b (r := hgt (dep w n) (w (64 + n))) (p := pressK (w (52 + n)) (grp w (dep w n) (w (58 + n)))) (h := h) hb (by omega) pb.1
    omega
theorem prs_b {w : Nat → Int} (hW : WF w) {h : Nat} (hh : h < 9) : ∀ n : Nat, (n : Int) ≤ w 5 → 0 ≤ prs w n h ∧ prs w n h ≤ 1003 * n
  | 0, _ => ⟨Int.le_refl _, Int.le_refl _⟩
  | n + 1, hn => by
    have a := prs_b hW hh n (by omega)
    have b := hprF_b hW (n := n) (by omega) hh
    unfold prs
    omega
theorem c_fill (g : Gl) (σ : St) (a n : Nat) (z : Int) (hz : inR z) (hn : n < 1000) (ha : gl σ a = some (.inr (0, n))) : Ct g mJ7_fill_53178 0 0 0 [vq (some a), vi z] σ (fun r τ => r = none ∧ ∃ f, τ = setA σ a f ∧ ∀ j, j < n → f j = z) := by
  refine Ct.of (by decide +kernel) (Nat.le_of_ble_eq_true rfl) ?_
  have loop : ∀ (m k : Nat) (f : Nat → Int), n - k < m → k ≤ n → (∀ j, j < k → f j = z) → V g mJ7_fill_53178 (rmD 0 0 0) (QM g 0 0 (fun r τ => r = none ∧ ∃ f, τ = setA σ a f ∧ ∀ j, j < n → f j = z)) 5 [some (vq (some a)), some (vi z), some (vi (k : Int)), some (vi (n : Int))] [] 0 0 (setA σ a f) := by
    intro m
    induction m with
    | zero => intro k f hm; omega
    | succ m ih =>
      intro k f hm hk hf
      refine V_iload_n dJ7_fill_53178_5 rfl ?_
      refine V_iload_n dJ7_fill_53178_6 rfl ?_
      refine V_icmpge (tgt := 20) dJ7_fill_53178_7 (by decide) (by omega) (by omega) (fun br7 => ?_) (fun br7 => ?_)
      · have e : k = n := by omega
        subst e
        refine V_vret dJ7_fill_53178_20 rfl (Nat.le_refl _) (Nat.le_refl _) ?_
        exact ⟨rfl, f, rfl, hf⟩
      · refine V_aload_n dJ7_fill_53178_10 rfl ?_
        refine V_iload_n dJ7_fill_53178_11 rfl ?_
        refine V_iload_n dJ7_fill_53178_12 rfl ?_
        refine V_iast dJ7_fill_53178_13 ha (by omega) ?_
        refine V_iinc dJ7_fill_53178_14 rfl (by decide) rfl ?_
        refine V_goto (tgt := 5) dJ7_fill_53178_17 (by decide) ?_
        refine V_mask [true, true, true, true] ?_
        refine V_sta (setG_A _ _ _ _ _) (ih (k + 1) _ (by omega) (by omega) (fun j hj => ?_))
        rw [Int.toNat_natCast]
        by_cases e : j = k
        · subst e; rw [up1_is]
        · rw [up1_ne _ e]; exact hf j (by omega)
  refine V_iconst dJ7_fill_53178_0 ?_
  refine V_istore_n dJ7_fill_53178_1 (by decide) rfl ?_
  refine V_aload_n dJ7_fill_53178_2 rfl ?_
  refine V_alen dJ7_fill_53178_3 ha ?_
  refine V_istore_n dJ7_fill_53178_4 (by decide) rfl ?_
  refine V_mask [true, true, true, true] ?_
  exact V_sta (setA_same σ a).symm (loop _ 0 (gG σ a) (Nat.lt_succ_self _) (Nat.zero_le _) (fun j hj => absurd hj (Nat.not_lt_zero j)))
theorem c_addPress (g : Gl) (σ : St) (hS : Std σ) (b : Nat) (hbl : gl σ b = some (.inl 3)) (hk : 0 ≤ gG σ b 0 ∧ gG σ b 0 ≤ 3) (hs : 0 ≤ gG σ b 2 ∧ gG σ b 2 ≤ 1) (d gr : Int) (hd : 0 ≤ d ∧ d ≤ 4) (hg : 0 ≤ gr ∧ gr ≤ 500) :
    Ct g mX1_addPress 2 0 0 [vq (some 69), vq (some b), vi d, vi gr] σ (fun r τ => r = none ∧ ∃ f, τ = setA σ 71 f ∧ ∀ h : Nat, h < 9 → f h = gG σ 71 h + prF (hgt d (gG σ b 2)) (pressK (gG σ b 0) gr) h) := by
  refine Ct.of (by decide +kernel) (Nat.le_of_ble_eq_true rfl) ?_
  have pb := pressK_b (k := gG σ b 0) hg
  have hb := hgt_b (d := d) (s := gG σ b 2) hd
  have loop : ∀ (m k : Nat) (f : Nat → Int), 9 - k < m → k ≤ 9 → (∀ h : Nat, h < k → f h = gG σ 71 h + prF (hgt d (gG σ b 2)) (pressK (gG σ b 0) gr) h) → (∀ h, k ≤ h → f h = gG σ 71 h) → V g mX1_addPress (rmD 2 0 0) (QM g 0 0 (fun r τ => r = none ∧ ∃ f, τ = setA σ 71 f ∧ ∀ h : Nat, h < 9 → f h = gG σ 71 h + prF (hgt d (gG σ b 2)) (pressK (gG σ b 0) gr) h)) 23 [some (vq (some 69)), none, none, none, some (vi (hgt d (gG σ b 2))), some (vi (pressK (gG σ b 0) gr)), some (vi (k : Int))] [] 0 0 (setA σ 71 f) := by
    intro m
    induction m with
    | zero => intro k f hm; omega
    | succ m ih =>
      intro k f hm hk9 hf hf2
      have hS : Std (setA σ 71 f) := hS
      refine V_iload dX1_addPress_23 rfl ?_
      refine V_bipush dX1_addPress_25 (by decide) ?_
      refine V_icmpge (tgt := 55) dX1_addPress_27 (by decide) (by omega) (by omega) (fun br27 => ?_) (fun br27 => ?_)
      · have e : k = 9 := by omega
        subst e
        refine V_vret dX1_addPress_55 rfl (Nat.le_refl _) (Nat.le_refl _) ?_
        exact ⟨rfl, f, rfl, hf⟩
      · refine V_aload_n dX1_addPress_30 rfl ?_
        refine V_getfr dX1_addPress_31 sf_RX1_15 (by decide) (sh hS rfl) (rf hS rfl) ?_
        refine V_iload dX1_addPress_34 rfl ?_
        refine V_dup2 dX1_addPress_36 rfl ?_
        refine V_iald dX1_addPress_37 (sh hS rfl) (by omega) ?_
        refine V_iload dX1_addPress_38 rfl ?_
        refine V_iload dX1_addPress_40 rfl ?_
        refine V_iload dX1_addPress_42 rfl ?_
        refine V_callS dX1_addPress_44 (c_pressFrom g _ _ _ _ hb (by omega) pb) ss_RX1_76 rfl ⟨⟨by decide, by decide⟩, ⟨by decide, by decide⟩⟩ (Nat.le_of_ble_eq_true rfl) (fun r44 s44 p44 => ?_)
        obtain ⟨rfl, rfl⟩ := p44
        refine V_iadd dX1_addPress_47 ?_
        refine V_iast dX1_addPress_48 (sh hS rfl) (by omega) ?_
        refine V_iinc dX1_addPress_49 rfl (by decide) rfl ?_
        refine V_goto (tgt := 23) dX1_addPress_52 (by decide) ?_
        refine V_mask [true, false, false, false, true, true, true] ?_
        refine V_sta (setG_A _ _ _ _ _) (ih (k + 1) _ (by omega) (by omega) (fun j hj => ?_) (fun j hj => ?_))
        · rw [Int.toNat_natCast]
          by_cases e : j = k
          · subst e
            rw [up1_is]
            show f _ + _ = _
            rw [hf2 _ (Nat.le_refl _)]
          · rw [up1_ne _ e]; exact hf j (by omega)
        · rw [Int.toNat_natCast, up1_ne _ (by omega)]
          exact hf2 j (by omega)
  refine V_iload_n dX1_addPress_0 rfl ?_
  refine V_aload_n dX1_addPress_1 rfl ?_
  refine V_getfi dX1_addPress_2 sf_RX1_52 rfl hbl ?_
  refine V_callS dX1_addPress_5 (c_heightOf g _ d _ (by omega)) ss_RX1_67 rfl ⟨⟨by decide, by decide⟩, ⟨by decide, by decide⟩⟩ (Nat.le_of_ble_eq_true rfl) (fun r5 s5 p5 => ?_)
  obtain ⟨rfl, rfl⟩ := p5
  refine V_istore dX1_addPress_8 (by decide) rfl ?_
  refine V_aload_n dX1_addPress_10 rfl ?_
  refine V_getfi dX1_addPress_11 sf_RX1_70 rfl hbl ?_
  refine V_iload_n dX1_addPress_14 rfl ?_
  refine V_callS dX1_addPress_15 (c_presses g _ _ gr hk (by omega)) ss_RX1_73 rfl ⟨⟨by decide, by decide⟩, ⟨by decide, by decide⟩⟩ (Nat.le_of_ble_eq_true rfl) (fun r15 s15 p15 => ?_)
  obtain ⟨rfl, rfl⟩ := p15
  refine V_istore dX1_addPress_18 (by decide) rfl ?_
  refine V_iconst dX1_addPress_20 ?_
  refine V_istore dX1_addPress_21 (by decide) rfl ?_
  refine V_mask [true, false, false, false, true, true, true] ?_
  exact V_sta (setA_same σ 71).symm (loop _ 0 (gG σ 71) (Nat.lt_succ_self _) (Nat.zero_le _) (fun j hj => absurd hj (Nat.not_lt_zero j)) (fun j _ => rfl))
/-- the cask's rows tell of w -/
def DR (τ : St) (w : Nat → Int) : Prop := (∀ j : Nat, (j : Int) < w 5 → gG τ 70 j = dep w j) ∧ ∀ h, h < 9 → gG τ 71 h = prs w (nH w) h
theorem c_drive (g : Gl) (σ : St) (w : Nat → Int) (hX : XS σ w) (hz : Z0 σ) : Ct g mX1_drive 3 0 0 [vq (some 69), vq (some 9)] σ (fun r τ => r = none ∧ XW σ τ ∧ DR τ w) := by
  refine Ct.of (by decide +kernel) (Nat.le_of_ble_eq_true rfl) ?_
  have hS := hX.1
  have loop : ∀ (m i : Nat) (τ : St), nH w - i < m → (i : Int) ≤ w 5 → XW σ τ → (∀ j, j < i → gG τ 70 j = dep w j) → (∀ h, h < 9 → gG τ 71 h = prs w i h) → V g mX1_drive (rmD 3 0 0) (QM g 0 0 (fun r τ => r = none ∧ XW σ τ ∧ DR τ w)) 10 [some (vq (some 69)), some (vq (some 9)), some (vi (i : Int)), none] [] 0 0 τ := by
    intro m
    induction m with
    | zero => intro i τ hm; omega
    | succ m ih =>
      intro i τ hm hi hK h70 h71
      have hX1 := hK.xs hX
      have hS := hX1.1
      have n5 := hX1.n5
      have hnH : nH w = (w 5).toNat := rfl
      refine V_iload_n dX1_drive_10 rfl ?_
      refine V_aload_n dX1_drive_11 rfl ?_
      refine V_getfi dX1_drive_12 sf_RX1_39 rfl (sh hS rfl) ?_
      refine V_icmpge (tgt := 99) dX1_drive_15 (by decide) (by omega) (by omega) (fun br15 => ?_) (fun br15 => ?_)
      · have e : i = nH w := by omega
        refine V_vret dX1_drive_99 rfl (Nat.le_refl _) (Nat.le_refl _) ?_
        exact ⟨rfl, hK, fun j hj => h70 j (by omega), by rw [← e]; exact h71⟩
      · obtain ⟨b, hb, hb93, hbl, hbg, hbk⟩ := hX1.h (i := (i : Int)) (by omega) (by omega)
        rw [Int.toNat_natCast] at hbg hbk
        have hd := dep_b w i
        refine V_aload_n dX1_drive_18 rfl ?_
        refine V_iload_n dX1_drive_19 rfl ?_
        refine V_callV dX1_drive_20 (c_hAt hX1 (by omega) (by omega) hb) sv_RX1_43 (sh hS rfl) rfl ⟨⟨by decide, by decide⟩, ⟨by decide, by decide⟩⟩ (Nat.le_of_ble_eq_true rfl) (fun r20 s20 p20 => ?_)
        obtain ⟨rfl, rfl⟩ := p20
        refine V_astore_n dX1_drive_23 (by decide) rfl ?_
        refine V_aload_n dX1_drive_24 rfl ?_
        refine V_getfr dX1_drive_25 sf_RX1_9 (by decide) (sh hS rfl) (rf hS rfl) ?_
        refine V_iload_n dX1_drive_28 rfl ?_
        refine V_aload_n dX1_drive_29 rfl ?_
        refine V_ifnonnull (tgt := 38) dX1_drive_30 (by decide) (fun a30 br30 => ?_) (fun br30 => ?_)
        · cases br30
          refine V_aload_n dX1_drive_38 rfl ?_
          refine V_aload_n dX1_drive_39 rfl ?_
          refine V_aload_n dX1_drive_40 rfl ?_
          refine V_getfi dX1_drive_41 sf_RX1_47 rfl hbl ?_
          refine V_val hbg.2.1 ?_
          refine V_aload_n dX1_drive_44 rfl ?_
          refine V_getfi dX1_drive_45 sf_RX1_52 rfl hbl ?_
          refine V_val hbg.2.2 ?_
          refine V_iload_n dX1_drive_48 rfl ?_
          refine V_callV dX1_drive_49 (c_restDepth g _ w hX1 i (by omega) (w (58 + i)) (w (64 + i)) (by omega) (by omega) (dep w) (fun j hj => ⟨h70 j hj, dep_b w j⟩)) sv_RX1_55 (sh hS rfl) rfl ⟨⟨by decide, by decide⟩, ⟨by decide, by decide⟩⟩ (Nat.le_of_ble_eq_true rfl) (fun r49 s49 p49 => ?_)
          obtain ⟨rfl, rfl⟩ := p49
          refine V_val (dep_is w i).symm ?_
          refine V_iast dX1_drive_52 (sh hS rfl) (by omega) ?_
          rw [Int.toNat_natCast]
          have hK2 : XW σ (setG τ 70 i (dep w i)) := hK.onG (by decide)
          have hX2 := hK2.xs hX
          have hS := hX2.1
          have q70 : ∀ j, j < i + 1 → gG (setG τ 70 i (dep w i)) 70 j = dep w j := fun j hj => by
            by_cases e : j = i
            · subst e; exact gG_is _ _ _ _
            · rw [gG_ne _ _ (Or.inr e)]; exact h70 j (by omega)
          have q71 : ∀ h, h < 9 → gG (setG τ 70 i (dep w i)) 71 h = prs w i h := fun h hh => by
            rw [gG_ne _ _ (Or.inl (by decide))]; exact h71 h hh
          have ebg : ∀ k, gG (setG τ 70 i (dep w i)) b k = gG τ b k := fun k => gG_ne _ _ (Or.inl (by omega))
          refine V_aload_n dX1_drive_53 rfl ?_
          refine V_ifnull (tgt := 93) dX1_drive_54 (by decide) (fun br54 => ?_) (fun a54 br54 => ?_)
          · cases br54
          · cases br54
            refine V_aload_n dX1_drive_57 rfl ?_
            refine V_getfr dX1_drive_58 sf_RX1_9 (by decide) (sh hS rfl) (rf hS rfl) ?_
            refine V_iload_n dX1_drive_61 rfl ?_
            refine V_iald dX1_drive_62 (sh hS rfl) (by omega) ?_
            refine V_val (show _ = dep w i by rw [Int.toNat_natCast]; exact gG_is _ _ _ _) ?_
            refine V_bipush dX1_drive_63 (by decide) ?_
            refine V_icmpeq (tgt := 93) dX1_drive_65 (by decide) (by omega) (by omega) (fun br65 => ?_) (fun br65 => ?_)
            · refine V_iinc dX1_drive_93 rfl (by decide) rfl ?_
              refine V_goto (tgt := 10) dX1_drive_96 (by decide) ?_
              refine V_mask [true, true, true, false] ?_
              first
                | exact ih (i + 1) _ (by omega) (by omega) hK2 q70 (fun h hh => by rw [q71 h hh]; show _ = prs w i h + hprF w i h; unfold hprF; rw [if_pos br65]; omega)
                | exact ih (i + 1) _ (by omega) (by omega) (hK2.onA (by decide)) q70 (fun h hh => (hf h hh).trans (by rw [q71 h hh, ebg, ebg, hbg.1, hbg.2.2]; show _ = prs w i h + hprF w i h; unfold hprF; rw [if_neg br65]))
            · refine V_aload_n dX1_drive_68 rfl ?_
              refine V_aload_n dX1_drive_69 rfl ?_
              refine V_aload_n dX1_drive_70 rfl ?_
              refine V_getfr dX1_drive_71 sf_RX1_9 (by decide) (sh hS rfl) (rf hS rfl) ?_
              refine V_iload_n dX1_drive_74 rfl ?_
              refine V_iald dX1_drive_75 (sh hS rfl) (by omega) ?_
              refine V_val (show _ = dep w i by rw [Int.toNat_natCast]; exact gG_is _ _ _ _) ?_
              refine V_aload_n dX1_drive_76 rfl ?_
              refine V_aload_n dX1_drive_77 rfl ?_
              refine V_getfr dX1_drive_78 sf_RX1_9 (by decide) (sh hS rfl) (rf hS rfl) ?_
              refine V_iload_n dX1_drive_81 rfl ?_
              refine V_iald dX1_drive_82 (sh hS rfl) (by omega) ?_
              refine V_val (show _ = dep w i by rw [Int.toNat_natCast]; exact gG_is _ _ _ _) ?_
              refine V_aload_n dX1_drive_83 rfl ?_
              refine V_getfi dX1_drive_84 sf_RX1_47 rfl hbl ?_
              refine V_val (show _ = w (58 + i) from (ebg 1).trans hbg.2.1) ?_
              refine V_callS dX1_drive_87 (c_gripAt g _ w hX2 (dep w i) (w (58 + i)) (by omega) (by omega)) ss_RX1_59 rfl ⟨⟨by decide, by decide⟩, ⟨by decide, by decide⟩⟩ (Nat.le_of_ble_eq_true rfl) (fun r87 s87 p87 => ?_)
              obtain ⟨rfl, rfl⟩ := p87
              refine V_callV dX1_drive_90 (c_addPress g _ hS b hbl (by rw [ebg, hbg.1]; exact hbk.1) (by rw [ebg, hbg.2.2]; exact hbk.2.2) (dep w i) (grp w (dep w i) (w (58 + i))) (by omega) (grp_b hX.2.2 (by omega) (by omega))) sv_RX1_63 (sh hS rfl) rfl ⟨⟨by decide, by decide⟩, ⟨by decide, by decide⟩⟩ (Nat.le_of_ble_eq_true rfl) (fun r90 s90 p90 => ?_)
              obtain ⟨rfl, f, rfl, hf⟩ := p90
              refine V_iinc dX1_drive_93 rfl (by decide) rfl ?_
              refine V_goto (tgt := 10) dX1_drive_96 (by decide) ?_
              refine V_mask [true, true, true, false] ?_
              first
                | exact ih (i + 1) _ (by omega) (by omega) hK2 q70 (fun h hh => by rw [q71 h hh]; show _ = prs w i h + hprF w i h; unfold hprF; rw [if_pos br65]; omega)
                | exact ih (i + 1) _ (by omega) (by omega) (hK2.onA (by decide)) q70 (fun h hh => (hf h hh).trans (by rw [q71 h hh, ebg, ebg, hbg.1, hbg.2.2]; show _ = prs w i h + hprF w i h; unfold hprF; rw [if_neg br65]))
        · cases br30
  refine V_aload_n dX1_drive_0 rfl ?_
  refine V_getfr dX1_drive_1 sf_RX1_15 (by decide) (sh hS rfl) (rf hS rfl) ?_
  refine V_iconst dX1_drive_4 ?_
  refine V_callS dX1_drive_5 (c_fill g _ 71 9 0 (by decide) (by decide) (sh hS rfl)) ss_RX1_33 rfl ⟨⟨by decide, by decide⟩, ⟨by decide, by decide⟩⟩ (Nat.le_of_ble_eq_true rfl) (fun r5 s5 p5 => ?_)
  obtain ⟨rfl, f, rfl, hf⟩ := p5
  refine V_iconst dX1_drive_8 ?_
  refine V_istore_n dX1_drive_9 (by decide) rfl ?_
  refine V_mask [true, true, true, false] ?_
  exact loop _ 0 _ (Nat.lt_succ_self _) (by have := hX.n5; omega) ((XW.rf hz).onA (by decide)) (fun j hj => absurd hj (Nat.not_lt_zero j)) (fun h hh => hf h hh)