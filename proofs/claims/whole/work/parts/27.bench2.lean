/-! the ring bench: what is chosen, what is weighed -/
theorem sh60 {τ : St} (h : Std τ) {a : Nat} (ha : a < 8) : gl τ (60 + a) = some (.inr (0, 8)) ∧ gP τ 59 a = some (60 + a) := by
  have : (layF (60 + a) = some (.inr (0, 8))) ∧ refF 59 a = some (60 + a) := by
    have : ∀ a : Nat, a < 8 → (layF (60 + a) = some (.inr (0, 8))) ∧ refF 59 a = some (60 + a) := by decide
    exact this a ha
  exact ⟨sh h this.1, rf h this.2⟩
theorem c_measureGaps (g : Gl) (σ : St) (w : Nat → Int) (hX : XS σ w) (sz : Nat) (hz : gG σ 55 5 = (sz : Int)) (h8 : sz ≤ 8) (o : Nat → Nat) (ho : ∀ j, j < sz → gG σ 57 j = (o j : Int) ∧ o j < nS w) : Ct g mX4_measureGaps 4 0 0 [vq (some 55), vq (some 9)] σ (fun r σ' => r = none ∧ ∃ f, σ' = setA σ 58 f ∧ ∀ j, j < sz → f j = gapW w (o j) (o (if j + 1 < sz then j + 1 else 0))) := by
  refine Ct.of (by decide +kernel) (Nat.le_of_ble_eq_true rfl) ?_
  have loop : ∀ (m n : Nat) (f : Nat → Int), sz - n < m → n ≤ sz → (∀ j, j < n → f j = gapW w (o j) (o (if j + 1 < sz then j + 1 else 0))) → V g mX4_measureGaps (rmD 4 0 0) (QM g 0 0 (fun r σ' => r = none ∧ ∃ f, σ' = setA σ 58 f ∧ ∀ j, j < sz → f j = gapW w (o j) (o (if j + 1 < sz then j + 1 else 0)))) 2 [some (vq (some 55)), some (vq (some 9)), some (vi (n : Int))] [] 0 0 (setA σ 58 f) := by
    intro m
    induction m with
    | zero => intro n f hm; omega
    | succ m ih =>
      intro n f hm hn hf
      have hX1 : XS (setA σ 58 f) w := hX.onA f (by decide) (by decide) (by decide)
      have hS := hX1.1
      have hz1 : gG (setA σ 58 f) 55 5 = (sz : Int) := hz
      refine V_iload_n dX4_measureGaps_2 rfl ?_
      refine V_aload_n dX4_measureGaps_3 rfl ?_
      refine V_getfi dX4_measureGaps_4 sf_RX4_39 rfl (sh hS rfl) ?_
      refine V_icmpge (tgt := 54) dX4_measureGaps_7 (by decide) (by omega) (by omega) (fun br7 => ?_) (fun br7 => ?_)
      · have : n = sz := by omega
        subst this
        refine V_vret dX4_measureGaps_54 rfl (Nat.le_refl _) (Nat.le_refl _) ?_
        exact ⟨rfl, f, rfl, hf⟩
      · have h1 := ho n (by omega)
        refine V_aload_n dX4_measureGaps_10 rfl ?_
        refine V_getfr dX4_measureGaps_11 sf_RX4_18 (by decide) (sh hS rfl) (rf hS rfl) ?_
        refine V_iload_n dX4_measureGaps_14 rfl ?_
        refine V_aload_n dX4_measureGaps_15 rfl ?_
        refine V_aload_n dX4_measureGaps_16 rfl ?_
        refine V_getfr dX4_measureGaps_17 sf_RX4_15 (by decide) (sh hS rfl) (rf hS rfl) ?_
        refine V_iload_n dX4_measureGaps_20 rfl ?_
        refine V_iald dX4_measureGaps_21 (sh hS rfl) (by omega) ?_
        refine V_val (show _ = (o n : Int) from h1.1) ?_
        refine V_aload_n dX4_measureGaps_22 rfl ?_
        refine V_getfr dX4_measureGaps_23 sf_RX4_15 (by decide) (sh hS rfl) (rf hS rfl) ?_
        refine V_iload_n dX4_measureGaps_26 rfl ?_
        refine V_iconst dX4_measureGaps_27 ?_
        refine V_iadd dX4_measureGaps_28 ?_
        refine V_aload_n dX4_measureGaps_29 rfl ?_
        refine V_getfi dX4_measureGaps_30 sf_RX4_39 rfl (sh hS rfl) ?_
        refine V_icmpge (tgt := 42) dX4_measureGaps_33 (by decide) (by omega) (by omega) (fun br33 => ?_) (fun br33 => ?_)
        · obtain ⟨nx, hnx, h2⟩ : ∃ nx, nx = (if n + 1 < sz then n + 1 else 0) ∧ (gG σ 57 nx = (o nx : Int) ∧ o nx < nS w) := ⟨_, rfl, by rw [if_neg (by omega)]; exact ho 0 (by omega)⟩
          refine V_iconst dX4_measureGaps_42 ?_
          refine V_iald dX4_measureGaps_43 (sh hS rfl) (by omega) ?_
          refine V_val (show _ = (o nx : Int) by first | (rw [show ((n : Int) + 1).toNat = nx by (rw [hnx, if_pos (by omega)]; omega)]; exact h2.1) | (rw [show (0 : Int).toNat = nx by (rw [hnx, if_neg (by omega)]; rfl)]; exact h2.1)) ?_
          refine V_callS dX4_measureGaps_44 (c_gapOf g _ w hX1 (o n) (o nx) h1.2 h2.2) ss_RX4_78 rfl ⟨⟨by decide, by decide⟩, ⟨by decide, by decide⟩⟩ (Nat.le_of_ble_eq_true rfl) (fun r44 s44 p44 => ?_)
          obtain ⟨rfl, rfl⟩ := p44
          refine V_iast dX4_measureGaps_47 (sh hS rfl) (by omega) ?_
          refine V_iinc dX4_measureGaps_48 rfl (by decide) rfl ?_
          refine V_goto (tgt := 2) dX4_measureGaps_51 (by decide) ?_
          refine V_mask [true, true, true] ?_
          refine V_sta (setG_A _ _ _ _ _) (ih (n + 1) _ (by omega) (by omega) (fun j hj => ?_))
          rw [Int.toNat_natCast]
          by_cases e : j = n
          · subst e
            rw [up1_is, hnx]
          · rw [up1_ne _ e]
            exact hf j (by omega)
        · obtain ⟨nx, hnx, h2⟩ : ∃ nx, nx = (if n + 1 < sz then n + 1 else 0) ∧ (gG σ 57 nx = (o nx : Int) ∧ o nx < nS w) := ⟨_, rfl, by rw [if_pos (by omega)]; exact ho (n + 1) (by omega)⟩
          refine V_iload_n dX4_measureGaps_36 rfl ?_
          refine V_iconst dX4_measureGaps_37 ?_
          refine V_iadd dX4_measureGaps_38 ?_
          refine V_goto (tgt := 43) dX4_measureGaps_39 (by decide) ?_
          refine V_iald dX4_measureGaps_43 (sh hS rfl) (by omega) ?_
          refine V_val (show _ = (o nx : Int) by first | (rw [show ((n : Int) + 1).toNat = nx by (rw [hnx, if_pos (by omega)]; omega)]; exact h2.1) | (rw [show (0 : Int).toNat = nx by (rw [hnx, if_neg (by omega)]; rfl)]; exact h2.1)) ?_
          refine V_callS dX4_measureGaps_44 (c_gapOf g _ w hX1 (o n) (o nx) h1.2 h2.2) ss_RX4_78 rfl ⟨⟨by decide, by decide⟩, ⟨by decide, by decide⟩⟩ (Nat.le_of_ble_eq_true rfl) (fun r44 s44 p44 => ?_)
          obtain ⟨rfl, rfl⟩ := p44
          refine V_iast dX4_measureGaps_47 (sh hS rfl) (by omega) ?_
          refine V_iinc dX4_measureGaps_48 rfl (by decide) rfl ?_
          refine V_goto (tgt := 2) dX4_measureGaps_51 (by decide) ?_
          refine V_mask [true, true, true] ?_
          refine V_sta (setG_A _ _ _ _ _) (ih (n + 1) _ (by omega) (by omega) (fun j hj => ?_))
          rw [Int.toNat_natCast]
          by_cases e : j = n
          · subst e
            rw [up1_is, hnx]
          · rw [up1_ne _ e]
            exact hf j (by omega)
  refine V_iconst dX4_measureGaps_0 ?_
  refine V_istore_n dX4_measureGaps_1 (by decide) rfl ?_
  refine V_mask [true, true, true] ?_
  exact V_sta (setA_same σ 58).symm (loop _ 0 (gG σ 58) (Nat.lt_succ_self _) (Nat.zero_le _) (fun j hj => absurd hj (Nat.not_lt_zero j)))
/-- the members of s below n, by their places -/
def mAt (s n k : Nat) : Nat := (mem s n).getD k 0
theorem mAt_in {s n k : Nat} (h : k < (mem s n).length) : mAt s n k < n ∧ s.testBit (mAt s n k) = true := by
  have : mAt s n k ∈ mem s n := by
    unfold mAt
    rw [List.getD_eq_getElem?_getD, List.getElem?_eq_getElem h]
    exact List.getElem_mem h
  exact mem_in.mp this
theorem mem_len_mono (s : Nat) {a b : Nat} (h : a ≤ b) : (mem s a).length ≤ (mem s b).length := by
  induction b with
  | zero => rw [show a = 0 by omega]; exact Nat.le_refl _
  | succ b ih =>
    rw [mem_s, List.length_append]
    by_cases e : a = b + 1
    · subst e; rw [mem_s, List.length_append]; exact Nat.le_refl _
    · have := ih (by omega); omega
theorem mAt_mono (s : Nat) {a b k : Nat} (h : a ≤ b) (hk : k < (mem s a).length) : mAt s b k = mAt s a k := by
  induction b with
  | zero => rw [show a = 0 by omega]
  | succ b ih =>
    by_cases e : a = b + 1
    · rw [e]
    · have h1 := ih (by omega)
      have h2 := mem_len_mono s (show a ≤ b by omega)
      rw [← h1]
      unfold mAt
      rw [mem_s, List.getD_eq_getElem?_getD, List.getElem?_append_left (by omega), ← List.getD_eq_getElem?_getD]
theorem mAt_new {s n : Nat} (h : s.testBit n = true) : mAt s (n + 1) (mem s n).length = n := by
  unfold mAt
  rw [mem_s, if_pos h, List.getD_eq_getElem?_getD, List.getElem?_append_right (Nat.le_refl _)]
  simp
def szW (w : Nat → Int) (s : Nat) : Nat := (mem s (nS w)).length
def atW (w : Nat → Int) (s k : Nat) : Nat := mAt s (nS w) k
/-- what stands in the bench's rows once a set is chosen -/
def CH (τ : St) (w : Nat → Int) (s : Nat) (p : Int) : Prop := gG τ 55 5 = (szW w s : Int) ∧ (∀ k, k < szW w s → gG τ 56 k = (atW w s k : Int)) ∧ ∀ a b, a < szW w s → b < szW w s → gG τ (60 + a) b = cst w p (atW w s a) (atW w s b)
theorem XK.onG {σ τ : St} (h : XK σ τ) {c k : Nat} {v : Int} (h1 : 25 ≤ c ∧ c ≤ 68) (h2 : c ≠ 53 ∧ c ≠ 54) : XK σ (setG τ c k v) := h.onA h1 (Or.inl h2)
theorem gG_is (τ : St) (c k : Nat) (v : Int) : gG (setG τ c k v) c k = v := by
  rw [gG_setG, if_pos rfl, up1_is]
theorem gG_ne (τ : St) {c k b j : Nat} (v : Int) (h : b ≠ c ∨ j ≠ k) : gG (setG τ c k v) b j = gG τ b j := by
  rw [gG_setG]
  by_cases e : b = c
  · rw [if_pos e]
    subst e
    exact up1_ne _ (by omega) _
  · rw [if_neg e]
def PCh (σ : St) (w : Nat → Int) (s : Nat) (p : Int) : Option MV → St → Prop := fun r τ => r = none ∧ XK σ τ ∧ CH τ w s p
set_option maxHeartbeats 4000000 in
theorem c_choose (g : Gl) (σ : St) (w : Nat → Int) (hX : XS σ w) (hz : Z0 σ) (s : Nat) (hs : s < 512) (p : Int) (hp : 0 ≤ p ∧ p ≤ 99) (h8 : szW w s ≤ 8) : Ct g mX4_choose 4 0 0 [vq (some 55), vq (some 9), vi (s : Int), vi p] σ (PCh σ w s p) := by
  refine Ct.of (by decide +kernel) (Nat.le_of_ble_eq_true rfl) ?_
  have hN := wf_n hX.2.2
  have hS := hX.1
  have rows : ∀ (m a : Nat) (τ : St), szW w s - a < m → a ≤ szW w s → XK σ τ → gG τ 55 5 = (szW w s : Int) → (∀ k, k < szW w s → gG τ 56 k = (atW w s k : Int)) → (∀ a' b, a' < a → b < szW w s → gG τ (60 + a') b = cst w p (atW w s a') (atW w s b)) →
      V g mX4_choose (rmD 4 0 0) (QM g 0 0 (PCh σ w s p)) 65 [some (vq (some 55)), some (vq (some 9)), none, some (vi p), some (vi (a : Int)), none] [] 0 0 τ := by
    intro m
    induction m with
    | zero => intro a τ hm; omega
    | succ m ih =>
      intro a τ hm ha hK k1 k2 k3
      have hX1 := hK.xs hX
      have hS := hX1.1
      refine V_iload dX4_choose_65 rfl ?_
      refine V_aload_n dX4_choose_67 rfl ?_
      refine V_getfi dX4_choose_68 sf_RX4_39 rfl (sh hS rfl) ?_
      refine V_icmpge (tgt := 132) dX4_choose_71 (by decide) (by omega) (by omega) (fun br71 => ?_) (fun br71 => ?_)
      · have : a = szW w s := by omega
        subst this
        refine V_vret dX4_choose_132 rfl (Nat.le_refl _) (Nat.le_refl _) ?_
        exact ⟨rfl, hK, k1, k2, fun a b ha hb => k3 a b ha hb⟩
      · refine V_iconst dX4_choose_74 ?_
        refine V_istore dX4_choose_75 (by decide) rfl ?_
        refine V_mask [true, true, false, true, true, true] ?_
        have hal : a < szW w s := by omega
        have inner : ∀ (m2 b : Nat) (τ2 : St), szW w s - b < m2 → b ≤ szW w s → XK σ τ2 → gG τ2 55 5 = (szW w s : Int) → (∀ k, k < szW w s → gG τ2 56 k = (atW w s k : Int)) → (∀ a' b', a' < a → b' < szW w s → gG τ2 (60 + a') b' = cst w p (atW w s a') (atW w s b')) → (∀ b', b' < b → gG τ2 (60 + a) b' = cst w p (atW w s a) (atW w s b')) →
            V g mX4_choose (rmD 4 0 0) (QM g 0 0 (PCh σ w s p)) 77 [some (vq (some 55)), some (vq (some 9)), none, some (vi p), some (vi (a : Int)), some (vi (b : Int))] [] 0 0 τ2 := by
          intro m2
          induction m2 with
          | zero => intro b τ2 hm2; omega
          | succ m2 ih2 =>
            intro b τ2 hm2 hb hK2 q1 q2 q3 q4
            have hX2 := hK2.xs hX
            have hS := hX2.1
            have ra := sh60 hS (a := a) (by omega)
            have ga := mAt_in (s := s) (n := nS w) (k := a) hal
            refine V_iload dX4_choose_77 rfl ?_
            refine V_aload_n dX4_choose_79 rfl ?_
            refine V_getfi dX4_choose_80 sf_RX4_39 rfl (sh hS rfl) ?_
            refine V_icmpge (tgt := 126) dX4_choose_83 (by decide) (by omega) (by omega) (fun br83 => ?_) (fun br83 => ?_)
            · have : b = szW w s := by omega
              subst this
              refine V_iinc dX4_choose_126 rfl (by decide) rfl ?_
              refine V_goto (tgt := 65) dX4_choose_129 (by decide) ?_
              refine V_mask [true, true, false, true, true, false] ?_
              exact ih (a + 1) _ (by omega) (by omega) hK2 q1 q2 (fun a' b' h1 h2 => by
                by_cases e : a' = a
                · subst e; exact q4 b' h2
                · exact q3 a' b' (by omega) h2)
            · have gb := mAt_in (s := s) (n := nS w) (k := b) (show b < szW w s by omega)
              have bb := gapW_b hX.2.2 (atW w s a) (atW w s b)
              refine V_aload_n dX4_choose_86 rfl ?_
              refine V_getfr dX4_choose_87 sf_RX4_23 (by decide) (sh hS rfl) (rf hS rfl) ?_
              refine V_iload dX4_choose_90 rfl ?_
              refine V_aald dX4_choose_92 (sh hS rfl) (by decide) (by omega) (show gP _ 59 (Int.toNat (a : Int)) = some (60 + a) by rw [Int.toNat_natCast]; exact ra.2) ?_
              refine V_iload dX4_choose_93 rfl ?_
              refine V_iconst dX4_choose_95 ?_
              refine V_aload_n dX4_choose_96 rfl ?_
              refine V_aload_n dX4_choose_97 rfl ?_
              refine V_getfr dX4_choose_98 sf_RX4_9 (by decide) (sh hS rfl) (rf hS rfl) ?_
              refine V_iload dX4_choose_101 rfl ?_
              refine V_iald dX4_choose_103 (sh hS rfl) (by omega) ?_
              refine V_val (show _ = (atW w s a : Int) by rw [Int.toNat_natCast]; exact q2 a hal) ?_
              refine V_aload_n dX4_choose_104 rfl ?_
              refine V_getfr dX4_choose_105 sf_RX4_9 (by decide) (sh hS rfl) (rf hS rfl) ?_
              refine V_iload dX4_choose_108 rfl ?_
              refine V_iald dX4_choose_110 (sh hS rfl) (by omega) ?_
              refine V_val (show _ = (atW w s b : Int) by rw [Int.toNat_natCast]; exact q2 b (by omega)) ?_
              refine V_callS dX4_choose_111 (c_gapOf g _ w hX2 (atW w s a) (atW w s b) ga.1 gb.1) ss_RX4_78 rfl ⟨⟨by decide, by decide⟩, ⟨by decide, by decide⟩⟩ (Nat.le_of_ble_eq_true rfl) (fun r111 s111 p111 => ?_)
              obtain ⟨rfl, rfl⟩ := p111
              refine V_iload_n dX4_choose_114 rfl ?_
              refine V_isub dX4_choose_115 ?_
              refine V_max dX4_choose_116 sm_RX4_62 (by decide) (by decide) (Nat.le_of_ble_eq_true rfl) (by omega) (by omega) ?_
              refine V_iast dX4_choose_119 ra.1 (by omega) ?_
              refine V_iinc dX4_choose_120 rfl (by decide) rfl ?_
              refine V_goto (tgt := 77) dX4_choose_123 (by decide) ?_
              refine V_mask [true, true, false, true, true, true] ?_
              refine ih2 (b + 1) _ (by omega) (by omega) (hK2.onG (by omega) (by omega)) ?_ ?_ ?_ ?_
              · rw [gG_ne _ _ (Or.inl (by omega))]; exact q1
              · intro k hk
                rw [gG_ne _ _ (Or.inl (by omega))]; exact q2 k hk
              · intro a' b' h1 h2
                rw [gG_ne _ _ (Or.inl (by omega))]; exact q3 a' b' h1 h2
              · intro b' hb'
                rw [Int.toNat_natCast]
                by_cases e : b' = b
                · subst e
                  rw [gG_is]; rfl
                · rw [gG_ne _ _ (Or.inr e)]; exact q4 b' (by omega)
        exact inner _ 0 τ (Nat.lt_succ_self _) (Nat.zero_le _) hK k1 k2 k3 (fun b' h => absurd h (Nat.not_lt_zero _))
  have pick : ∀ (m i : Nat) (τ : St), nS w - i < m → i ≤ nS w → XK σ τ → gG τ 55 5 = ((mem s i).length : Int) → (∀ k, k < (mem s i).length → gG τ 56 k = (mAt s i k : Int)) →
      V g mX4_choose (rmD 4 0 0) (QM g 0 0 (PCh σ w s p)) 8 [some (vq (some 55)), some (vq (some 9)), some (vi (s : Int)), some (vi p), some (vi (i : Int)), none] [] 0 0 τ := by
    intro m
    induction m with
    | zero => intro i τ hm; omega
    | succ m ih =>
      intro i τ hm hi hK k1 k2
      have hX1 := hK.xs hX
      have hS := hX1.1
      have n4 := hX1.n4
      have hmono := mem_len_mono s hi
      have h8' : (mem s (nS w)).length ≤ 8 := h8
      refine V_iload dX4_choose_8 rfl ?_
      refine V_aload_n dX4_choose_10 rfl ?_
      refine V_getfi dX4_choose_11 sf_RX4_29 rfl (sh hS rfl) ?_
      refine V_icmpge (tgt := 62) dX4_choose_14 (by decide) (by omega) (by omega) (fun br14 => ?_) (fun br14 => ?_)
      · refine V_iconst dX4_choose_62 ?_
        refine V_istore dX4_choose_63 (by decide) rfl ?_
        refine V_mask [true, true, false, true, true, false] ?_
        have hall : (mem s i).length = szW w s := by
          first | (have : i = nS w := by omega
                   subst this; rfl) | (unfold szW; omega)
        exact rows _ 0 τ (Nat.lt_succ_self _) (Nat.zero_le _) hK (by rw [k1, hall]) (fun k hk => by rw [k2 k (by omega)]; unfold atW; rw [mAt_mono s hi (by omega)]) (fun a' b h => absurd h (Nat.not_lt_zero _))
      · refine V_aload_n dX4_choose_17 rfl ?_
        refine V_getfi dX4_choose_18 sf_RX4_39 rfl (sh hS rfl) ?_
        refine V_bipush dX4_choose_21 (by decide) ?_
        refine V_icmpge (tgt := 62) dX4_choose_23 (by decide) (by omega) (by omega) (fun br23 => ?_) (fun br23 => ?_)
        · refine V_iconst dX4_choose_62 ?_
          refine V_istore dX4_choose_63 (by decide) rfl ?_
          refine V_mask [true, true, false, true, true, false] ?_
          have hall : (mem s i).length = szW w s := by
            first | (have : i = nS w := by omega
                     subst this; rfl) | (unfold szW; omega)
          exact rows _ 0 τ (Nat.lt_succ_self _) (Nat.zero_le _) hK (by rw [k1, hall]) (fun k hk => by rw [k2 k (by omega)]; unfold atW; rw [mAt_mono s hi (by omega)]) (fun a' b h => absurd h (Nat.not_lt_zero _))
        · refine V_iload_n dX4_choose_26 rfl ?_
          refine V_iload dX4_choose_27 rfl ?_
          refine V_callS dX4_choose_29 (c_holds g _ _ _ (by omega) (by omega)) ss_RX4_101 rfl ⟨⟨by decide, by decide⟩, ⟨by decide, by decide⟩⟩ (Nat.le_of_ble_eq_true rfl) (fun r29 s29 p29 => ?_)
          obtain ⟨rfl, rfl⟩ := p29
          refine V_ifeqB (tgt := 56) dX4_choose_32 (by decide) (fun br32 => ?_) (fun br32 => ?_)
          · refine V_iinc dX4_choose_56 rfl (by decide) rfl ?_
            refine V_goto (tgt := 8) dX4_choose_59 (by decide) ?_
            refine V_mask [true, true, true, true, true, false] ?_
            first
              | (have hbt := (bt_nat s i).mp br32
                 refine ih (i + 1) _ (by omega) (by omega) ((hK.onG (by decide) (by decide)).onG (by decide) (by decide)) ?_ ?_
                 · rw [gG_is, gG_ne _ _ (Or.inl (by decide)), k1, mem_s, if_pos hbt]; simp
                 · intro k hk
                   rw [mem_s, if_pos hbt, List.length_append, List.length_singleton] at hk
                   rw [gG_ne _ _ (Or.inl (by decide)), k1, Int.toNat_natCast]
                   by_cases e : k = (mem s i).length
                   · subst e
                     rw [gG_is, mAt_new hbt]
                   · rw [gG_ne _ _ (Or.inr e), mAt_mono s (Nat.le_succ i) (by omega)]
                     exact k2 k (by omega))
              | (have hbt : ¬ s.testBit i = true := fun z => br32 ((bt_nat s i).mpr z)
                 refine ih (i + 1) _ (by omega) (by omega) hK ?_ ?_
                 · rw [k1, mem_s, if_neg hbt, List.append_nil]
                 · intro k hk
                   rw [mem_s, if_neg hbt, List.append_nil] at hk
                   rw [mAt_mono s (Nat.le_succ i) hk]
                   exact k2 k hk)
          · refine V_aload_n dX4_choose_35 rfl ?_
            refine V_getfr dX4_choose_36 sf_RX4_9 (by decide) (sh hS rfl) (rf hS rfl) ?_
            refine V_aload_n dX4_choose_39 rfl ?_
            refine V_getfi dX4_choose_40 sf_RX4_39 rfl (sh hS rfl) ?_
            refine V_iload dX4_choose_43 rfl ?_
            refine V_iast dX4_choose_45 (sh hS rfl) (by rw [k1]; omega) ?_
            refine V_aload_n dX4_choose_46 rfl ?_
            refine V_dup dX4_choose_47 rfl ?_
            refine V_getfi dX4_choose_48 sf_RX4_39 rfl (sh hS rfl) ?_
            refine V_iconst dX4_choose_51 ?_
            refine V_iadd dX4_choose_52 ?_
            refine V_puti dX4_choose_53 (sp_RX4_39 _) rfl (sh hS rfl) ?_
            refine V_iinc dX4_choose_56 rfl (by decide) rfl ?_
            refine V_goto (tgt := 8) dX4_choose_59 (by decide) ?_
            refine V_mask [true, true, true, true, true, false] ?_
            first
              | (have hbt := (bt_nat s i).mp br32
                 refine ih (i + 1) _ (by omega) (by omega) ((hK.onG (by decide) (by decide)).onG (by decide) (by decide)) ?_ ?_
                 · rw [gG_is, gG_ne _ _ (Or.inl (by decide)), k1, mem_s, if_pos hbt]; simp
                 · intro k hk
                   rw [mem_s, if_pos hbt, List.length_append, List.length_singleton] at hk
                   rw [gG_ne _ _ (Or.inl (by decide)), k1, Int.toNat_natCast]
                   by_cases e : k = (mem s i).length
                   · subst e
                     rw [gG_is, mAt_new hbt]
                   · rw [gG_ne _ _ (Or.inr e), mAt_mono s (Nat.le_succ i) (by omega)]
                     exact k2 k (by omega))
              | (have hbt : ¬ s.testBit i = true := fun z => br32 ((bt_nat s i).mpr z)
                 refine ih (i + 1) _ (by omega) (by omega) hK ?_ ?_
                 · rw [k1, mem_s, if_neg hbt, List.append_nil]
                 · intro k hk
                   rw [mem_s, if_neg hbt, List.append_nil] at hk
                   rw [mAt_mono s (Nat.le_succ i) hk]
                   exact k2 k hk)
  refine V_aload_n dX4_choose_0 rfl ?_
  refine V_iconst dX4_choose_1 ?_
  refine V_puti dX4_choose_2 (sp_RX4_39 _) rfl (sh hS rfl) ?_
  refine V_iconst dX4_choose_5 ?_
  refine V_istore dX4_choose_6 (by decide) rfl ?_
  refine V_mask [true, true, true, true, true, false] ?_
  exact pick _ 0 _ (Nat.lt_succ_self _) (Nat.zero_le _) ((XK.rf hz).onG (by decide) (by decide)) (gG_is _ _ _ _) (fun k hk => absurd hk (Nat.not_lt_zero _))