/-! the class's questions about rings -/
theorem pcn_mem (s : Nat) : ∀ n : Nat, pcn (s : Int) n = ((mem s n).length : Int)
  | 0 => rfl
  | n + 1 => by
    rw [mem_s, List.length_append]
    show pcn (s : Int) n + _ = _
    rw [pcn_mem s n]
    by_cases h : s.testBit n = true
    · rw [if_pos h, if_pos ((bt_nat s n).mpr h)]; simp
    · rw [if_neg h, if_neg (fun z => h ((bt_nat s n).mp z))]; simp
theorem mem_top {s a b : Nat} (h : s < 2 ^ a) (hab : a ≤ b) : mem s b = mem s a := by
  induction b with
  | zero => rw [show a = 0 by omega]
  | succ b ih =>
    by_cases e : a = b + 1
    · rw [e]
    · rw [mem_s, if_neg (by rw [Nat.testBit_lt_two_pow (Nat.lt_of_lt_of_le h (pw_le (by omega)))]; decide), List.append_nil]
      exact ih (by omega)
abbrev okSet (w : Nat → Int) (s : Int) : Prop := 1 ≤ s ∧ s < ((2 ^ nS w : Nat) : Int) ∧ pc10 s ≤ 8
theorem okSet_sz {w : Nat → Int} (hW : WF w) {s : Int} (h : okSet w s) : ∃ m : Nat, s = (m : Int) ∧ m < 512 ∧ szW w m ≤ 8 ∧ 1 ≤ szW w m := by
  have h2 := two_nS hW
  have hN := wf_n hW
  obtain ⟨m, rfl⟩ : ∃ m : Nat, s = (m : Int) := ⟨s.toNat, by omega⟩
  have h3 : pc10 (m : Int) = ((mem m 10).length : Int) := pcn_mem m 10
  have h4 : mem m 10 = mem m (nS w) := mem_top (by omega) (by omega)
  have h5 := h.2.2
  rw [h3, h4] at h5
  refine ⟨m, rfl, by omega, by unfold szW; omega, ?_⟩
  exact List.length_pos_iff.mpr (mem_ne (by omega) (by omega))
theorem c_isRingSet (g : Gl) (σ : St) (w : Nat → Int) (hX : XS σ w) (s : Int) (hi : inR s) : Ct g mX11_isRingSet 1 0 0 [vq (some 8), vi s] σ (rP (vi (bI (okSet w s))) σ) := by
  refine Ct.of (by decide +kernel) (Nat.le_of_ble_eq_true rfl) ?_
  have hS := hX.1
  have n4 := hX.n4
  have hN := wf_n hX.2.2
  have h2 := two_nS hX.2.2
  refine V_iload_n dX11_isRingSet_0 rfl ?_
  refine V_iconst dX11_isRingSet_1 ?_
  refine V_iconst dX11_isRingSet_2 ?_
  refine V_aload_n dX11_isRingSet_3 rfl ?_
  refine V_getfr dX11_isRingSet_4 sf_RX11_12 (by decide) (sh hS rfl) (rf hS rfl) ?_
  refine V_getfi dX11_isRingSet_7 sf_RX11_118 rfl (sh hS rfl) ?_
  refine V_ishl dX11_isRingSet_10 (by omega) ?_
  refine V_val (show _ = ((2 ^ nS w : Nat) : Int) by rw [n4.1, Int.one_mul, Int.natCast_pow]; rfl) ?_
  refine V_iconst dX11_isRingSet_11 ?_
  refine V_isub dX11_isRingSet_12 ?_
  refine V_callS dX11_isRingSet_13 (c_isIn g _ _ _ _ (by omega) (by omega) (by omega)) ss_RX11_107 rfl ⟨⟨by decide, by decide⟩, ⟨by decide, by decide⟩⟩ (Nat.le_of_ble_eq_true rfl) (fun r13 s13 p13 => ?_)
  obtain ⟨rfl, rfl⟩ := p13
  refine V_ifeqB (tgt := 32) dX11_isRingSet_16 (by decide) (fun br16 => ?_) (fun br16 => ?_)
  · refine V_iconst dX11_isRingSet_32 ?_
    refine V_zret dX11_isRingSet_33 rfl (Nat.le_refl _) (Nat.le_refl _) (by first | omega | exact bI_01 _) ?_
    first | exact rP_t (by unfold okSet; omega) | exact rP_f (by unfold okSet; omega)
  · have hp : 0 ≤ pc10 s ∧ pc10 s ≤ 10 := by
      have pb : ∀ (s : Int) (n : Nat), 0 ≤ pcn s n ∧ pcn s n ≤ n := by
        intro s n
        induction n with
        | zero => exact ⟨Int.le_refl _, Int.le_refl _⟩
        | succ n ih => unfold pcn; split <;> omega
      exact pb s 10
    refine V_iload_n dX11_isRingSet_19 rfl ?_
    refine V_callS dX11_isRingSet_20 (c_bitCount g _ _ (by omega) (by omega)) ss_RX11_379 rfl ⟨⟨by decide, by decide⟩, ⟨by decide, by decide⟩⟩ (Nat.le_of_ble_eq_true rfl) (fun r20 s20 p20 => ?_)
    obtain ⟨rfl, rfl⟩ := p20
    refine V_bipush dX11_isRingSet_23 (by decide) ?_
    refine V_icmpgt (tgt := 32) dX11_isRingSet_25 (by decide) (by omega) (by omega) (fun br25 => ?_) (fun br25 => ?_)
    · refine V_iconst dX11_isRingSet_32 ?_
      refine V_zret dX11_isRingSet_33 rfl (Nat.le_refl _) (Nat.le_refl _) (by first | omega | exact bI_01 _) ?_
      first | exact rP_t (by unfold okSet; omega) | exact rP_f (by unfold okSet; omega)
    · refine V_iconst dX11_isRingSet_28 ?_
      refine V_goto (tgt := 33) dX11_isRingSet_29 (by decide) ?_
      refine V_zret dX11_isRingSet_33 rfl (Nat.le_refl _) (Nat.le_refl _) (by first | omega | exact bI_01 _) ?_
      first | exact rP_t (by unfold okSet; omega) | exact rP_f (by unfold okSet; omega)
theorem sumN_front (h : Nat → Int) : ∀ n : Nat, sumN h (n + 1) = h 0 + sumN (fun j => h (j + 1)) n
  | 0 => by show 0 + h 0 = h 0 + 0; omega
  | n + 1 => by
    show sumN h (n + 1) + h (n + 1) = h 0 + (sumN (fun j => h (j + 1)) n + h (n + 1))
    rw [sumN_front h n]; omega
theorem sumN_cong {h e : Nat → Int} : ∀ n : Nat, (∀ j, j < n → h j = e j) → sumN h n = sumN e n
  | 0, _ => rfl
  | n + 1, q => by
    show sumN h n + h n = sumN e n + e n
    rw [sumN_cong n (fun j hj => q j (by omega)), q n (by omega)]
theorem way_sum (c : Nat → Nat → Int) (f : Nat) : ∀ (t : List Nat) (x : Nat), sumN (fun j => c ((x :: t).getD j 0) (if j + 1 < t.length + 1 then (x :: t).getD (j + 1) 0 else f)) (t.length + 1) = way c f x t
  | [], x => by
    show 0 + c x f = c x f
    omega
  | y :: t, x => by
    rw [sumN_front]
    show c x _ + _ = c x y + way c f y t
    rw [← way_sum c f t y, if_pos (by simp only [List.length_cons]; omega)]
    congr 1
    refine sumN_cong _ (fun j hj => ?_)
    have : (j + 1 + 1 < (y :: t).length + 1) ↔ (j + 1 < t.length + 1) := by simp only [List.length_cons]; omega
    by_cases h : j + 1 < t.length + 1
    · rw [if_pos h, if_pos (this.mpr h)]; rfl
    · rw [if_neg h, if_neg (fun z => h (this.mp z))]; rfl
/-- what the rings in hand leak; their joints' gaps -/
def gapL (w : Nat → Int) (l : List Nat) (j : Nat) : Int := gapW w (l.getD j 0) (l.getD (nxtI l.length j) 0)
def leakL (w : Nat → Int) (l : List Nat) (p : Int) : Int := sumN (fun j => max 0 (gapL w l j - p)) l.length
def digL (l : List Nat) : Int := digF (fun j => l.getD j 0) l.length
theorem leakL_way (w : Nat → Int) (p : Int) (x : Nat) (t : List Nat) : leakL w (x :: t) p = way (cst w p) x x t := by
  rw [← way_sum]
  refine sumN_cong _ (fun j _ => ?_)
  unfold cst gapL nxtI
  simp only [List.length_cons]
  by_cases h : j + 1 < t.length + 1
  · rw [if_pos h, if_pos h]
  · rw [if_neg h, if_neg h]; rfl
theorem leakL_least {w : Nat → Int} (hW : WF w) {s : Nat} {p : Int} (hp : 0 ≤ p) (h8 : szW w s ≤ 8) (h1 : 1 ≤ szW w s) : leakL w (ringW w s p) p = leastW false w s p := by
  have := ar_way (cst_ok hW hp) (hdW w s) (szW w s - 1) (tlW w s) (hdW w s) (List.Pairwise.sublist (List.tail_sublist _) (mem_nodup _ _)) (by unfold tlW; rw [List.length_tail]; rfl) (by omega)
  unfold leastW
  rw [← this]
  exact leakL_way _ _ _ _
theorem LR_gap {τ : St} {w : Nat → Int} (hW : WF w) {n : Nat} {o : Nat → Nat} (h : LR τ w n o) : ∀ j, j < n → 0 ≤ gG τ 58 j ∧ gG τ 58 j ≤ 99 := fun j hj => by
  have := gapW_b hW (o j) (o (nxtI n j))
  rw [(h.2 j hj).2.2]
  omega
theorem LR_leak {τ : St} {w : Nat → Int} {l : List Nat} (h : LR τ w l.length (fun j => l.getD j 0)) (p : Int) : sumN (fun j => max 0 (gG τ 58 j - p)) l.length = leakL w l p := sumN_cong _ (fun j hj => by rw [(h.2 j hj).2.2]; rfl)
theorem rnk_cong {h e : Nat → Int} {j : Nat} : ∀ n : Nat, (∀ i, i < n → h i = e i) → h j = e j → rnk h j n = rnk e j n
  | 0, _, _ => rfl
  | n + 1, q, r => by
    show rnk h j n + _ = rnk e j n + _
    rw [rnk_cong n (fun i hi => q i (by omega)) r, q n (by omega), r]
theorem jrk_cong {h e : Nat → Int} {sz : Nat} {i : Int} (q : ∀ j, j < sz → h j = e j) : ∀ (m j : Nat), j + m = sz → jrk h sz i m j = jrk e sz i m j
  | 0, _, _ => rfl
  | m + 1, j, hm => by
    unfold jrk
    rw [rnk_cong sz q (q j (by omega)), jrk_cong q m (j + 1) (by omega)]
def rgOK (l : List Nat) : Bool := decide (1 ≤ l.length) && l.all (fun x => decide (l.getD 0 0 ≤ x))
theorem rgOK_iff (l : List Nat) : rgOK l = true ↔ 1 ≤ l.length ∧ ∀ j, j < l.length → l.getD 0 0 ≤ l.getD j 0 := by
  unfold rgOK
  rw [Bool.and_eq_true, decide_eq_true_iff, List.all_eq_true]
  refine ⟨fun h => ⟨h.1, fun j hj => ?_⟩, fun h => ⟨h.1, fun x hx => ?_⟩⟩
  · have := h.2 (l.getD j 0) (by rw [List.getD_eq_getElem?_getD, List.getElem?_eq_getElem hj]; exact List.getElem_mem _)
    exact of_decide_eq_true this
  · obtain ⟨j, hj, rfl⟩ := List.getElem_of_mem hx
    have := h.2 j hj
    rw [List.getD_eq_getElem?_getD (i := j), List.getElem?_eq_getElem hj] at this
    exact decide_eq_true this
def spR (w : Nat → Int) (v : Int) : List Nat := spell v (nS w) 8
theorem okD_lt {n : Nat} : ∀ (l : List Int) (seen : Nat), okD n l seen = true → ∀ d ∈ l, (d - 1).toNat < n ∧ 0 ≤ d - 1
  | [], _, _, d, hd => by cases hd
  | a :: t, seen, h, d, hd => by
    unfold okD at h
    simp only [Bool.and_eq_true, decide_eq_true_iff] at h
    rcases List.mem_cons.mp hd with e | e
    · subst e; exact ⟨by omega, h.1⟩
    · exact okD_lt t _ h.2.2.2 d e
theorem spell_lt {v : Int} {n mx : Nat} {x : Nat} (hx : x ∈ spell v n mx) : x < n := by
  unfold spell at hx
  split at hx
  · rename_i h
    rw [List.mem_reverse, List.mem_map] at hx
    obtain ⟨d, hd, rfl⟩ := hx
    exact (okD_lt _ _ h.2.2 d hd).1
  · cases hx
theorem spell_len {v : Int} {n mx : Nat} : (spell v n mx).length ≤ mx := by
  unfold spell
  split
  · rename_i h
    rw [List.length_reverse, List.length_map]
    exact h.2.1
  · exact Nat.zero_le _
theorem getD_in {l : List Nat} {j : Nat} (hj : j < l.length) : l.getD j 0 ∈ l := by
  rw [List.getD_eq_getElem?_getD, List.getElem?_eq_getElem hj]
  exact List.getElem_mem _
theorem c_layTold (g : Gl) (σ : St) (w : Nat → Int) (hX : XS σ w) (hz : Z0 σ) (v : Int) (hv : inR v) : Ct g mX4_layTold 5 0 0 [vq (some 55), vq (some 9), vi v] σ (fun r τ => r = some (vi (bI (rgOK (spR w v) = true))) ∧ XK σ τ ∧ (rgOK (spR w v) = true → LR τ w (spR w v).length (fun j => (spR w v).getD j 0))) := by
  refine Ct.of (by decide +kernel) (Nat.le_of_ble_eq_true rfl) ?_
  have hS := hX.1
  have n4 := hX.n4
  have hN := wf_n hX.2.2
  have hl8 : (spR w v).length ≤ 8 := spell_len
  have hlt : ∀ j, j < (spR w v).length → (spR w v).getD j 0 < nS w := fun j hj => spell_lt (getD_in hj)
  have no : ∀ {j : Nat} {τ : St}, j < (spR w v).length → (spR w v).getD j 0 < (spR w v).getD 0 0 → XK σ τ → (fun (r : Option MV) (τ : St) => r = some (vi (bI (rgOK (spR w v) = true))) ∧ XK σ τ ∧ (rgOK (spR w v) = true → LR τ w (spR w v).length (fun j => (spR w v).getD j 0))) (some (vi 0)) τ := by
    intro j τ hj h hK
    have hn : ¬ rgOK (spR w v) = true := fun q => by
      have := ((rgOK_iff _).mp q).2 j hj
      omega
    exact ⟨by rw [bI_f hn], hK, fun q => absurd q hn⟩
  have loop : ∀ (m k : Nat) (τ : St), (spR w v).length + 1 - k < m → 1 ≤ k → k ≤ (spR w v).length + 1 → XK σ τ → gG τ 55 5 = ((spR w v).length : Int) → (∀ j, j < (spR w v).length → gG τ 57 j = ((spR w v).getD j 0 : Int)) → (∀ j, j < k → j < (spR w v).length → (spR w v).getD 0 0 ≤ (spR w v).getD j 0) →
      V g mX4_layTold (rmD 5 0 0) (QM g 0 0 (fun r τ => r = some (vi (bI (rgOK (spR w v) = true))) ∧ XK σ τ ∧ (rgOK (spR w v) = true → LR τ w (spR w v).length (fun j => (spR w v).getD j 0)))) 18 [some (vq (some 55)), some (vq (some 9)), none, some (vi (k : Int))] [] 0 0 τ := by
    intro m
    induction m with
    | zero => intro k τ hm; omega
    | succ m ih =>
      intro k τ hm hk1 hk hK k1 k2 k3
      have hX1 := hK.xs hX
      have hS := hX1.1
      refine V_iload_n dX4_layTold_18 rfl ?_
      refine V_aload_n dX4_layTold_19 rfl ?_
      refine V_getfi dX4_layTold_20 sf_RX4_39 rfl (sh hS rfl) ?_
      refine V_icmpge (tgt := 49) dX4_layTold_23 (by decide) (by omega) (by omega) (fun br23 => ?_) (fun br23 => ?_)
      · refine V_aload_n dX4_layTold_49 rfl ?_
        refine V_aload_n dX4_layTold_50 rfl ?_
        refine V_callV dX4_layTold_51 (c_measureGaps g _ w hX1 (spR w v).length k1 hl8 (fun j => (spR w v).getD j 0) (fun j hj => ⟨k2 j hj, hlt j hj⟩)) sv_RX4_42 (sh hS rfl) rfl ⟨⟨by decide, by decide⟩, ⟨by decide, by decide⟩⟩ (Nat.le_of_ble_eq_true rfl) (fun r51 s51 p51 => ?_)
        obtain ⟨rfl, f, rfl, hf⟩ := p51
        have k1' : gG (setA τ 58 f) 55 5 = ((spR w v).length : Int) := k1
        have hLR : LR (setA τ 58 f) w (spR w v).length (fun j => (spR w v).getD j 0) := ⟨k1, fun j hj => ⟨k2 j hj, hlt j hj, hf j hj⟩⟩
        have hK2 : XK σ (setA τ 58 f) := hK.onA (by decide) (Or.inl (by decide))
        refine V_aload_n dX4_layTold_54 rfl ?_
        refine V_getfi dX4_layTold_55 sf_RX4_39 rfl (sh hS rfl) ?_
        refine V_ifle (tgt := 65) dX4_layTold_58 (by decide) (by omega) (fun br58 => ?_) (fun br58 => ?_)
        · refine V_iconst dX4_layTold_65 ?_
          refine V_zret dX4_layTold_66 rfl (Nat.le_refl _) (Nat.le_refl _) (by first | omega | exact bI_01 _) ?_
          first
            | exact ⟨by rw [bI_t ((rgOK_iff _).mpr ⟨by omega, fun j hj => k3 j (by omega) hj⟩)], hK2, fun _ => hLR⟩
            | exact ⟨by rw [bI_f (fun q => by have := ((rgOK_iff _).mp q).1; omega)], hK2, fun _ => hLR⟩
        · refine V_iconst dX4_layTold_61 ?_
          refine V_goto (tgt := 66) dX4_layTold_62 (by decide) ?_
          refine V_zret dX4_layTold_66 rfl (Nat.le_refl _) (Nat.le_refl _) (by first | omega | exact bI_01 _) ?_
          first
            | exact ⟨by rw [bI_t ((rgOK_iff _).mpr ⟨by omega, fun j hj => k3 j (by omega) hj⟩)], hK2, fun _ => hLR⟩
            | exact ⟨by rw [bI_f (fun q => by have := ((rgOK_iff _).mp q).1; omega)], hK2, fun _ => hLR⟩
      · have ek := k2 k (by omega)
        have e0 := k2 0 (by omega)
        refine V_aload_n dX4_layTold_26 rfl ?_
        refine V_getfr dX4_layTold_27 sf_RX4_15 (by decide) (sh hS rfl) (rf hS rfl) ?_
        refine V_iload_n dX4_layTold_30 rfl ?_
        refine V_iald dX4_layTold_31 (sh hS rfl) (by omega) ?_
        refine V_val (show _ = ((spR w v).getD k 0 : Int) by rw [Int.toNat_natCast]; exact ek) ?_
        have lk := hlt k (by omega)
        have l0 := hlt 0 (by omega)
        refine V_aload_n dX4_layTold_32 rfl ?_
        refine V_getfr dX4_layTold_33 sf_RX4_15 (by decide) (sh hS rfl) (rf hS rfl) ?_
        refine V_iconst dX4_layTold_36 ?_
        refine V_iald dX4_layTold_37 (sh hS rfl) (by omega) ?_
        refine V_val (show _ = ((spR w v).getD 0 0 : Int) from e0) ?_
        refine V_icmpge (tgt := 43) dX4_layTold_38 (by decide) (by omega) (by omega) (fun br38 => ?_) (fun br38 => ?_)
        · refine V_iinc dX4_layTold_43 rfl (by decide) rfl ?_
          refine V_goto (tgt := 18) dX4_layTold_46 (by decide) ?_
          refine V_mask [true, true, false, true] ?_
          exact ih (k + 1) _ (by omega) (by omega) (by omega) hK k1 k2 (fun j h1 h2 => by
            by_cases e : j = k
            · subst e; omega
            · exact k3 j (by omega) h2)
        · refine V_iconst dX4_layTold_41 ?_
          refine V_zret dX4_layTold_42 rfl (Nat.le_refl _) (Nat.le_refl _) (by first | omega | exact bI_01 _) ?_
          exact no (j := k) (by omega) (by omega) hK
  refine V_aload_n dX4_layTold_0 rfl ?_
  refine V_iload_n dX4_layTold_1 rfl ?_
  refine V_aload_n dX4_layTold_2 rfl ?_
  refine V_getfi dX4_layTold_3 sf_RX4_29 rfl (sh hS rfl) ?_
  refine V_aload_n dX4_layTold_6 rfl ?_
  refine V_getfr dX4_layTold_7 sf_RX4_15 (by decide) (sh hS rfl) (rf hS rfl) ?_
  refine V_locs (fun j v h => h) ?_
  refine V_callS dX4_layTold_10 (show Ct g mX11_spellRow 1 0 0 [vi v, vi (gG σ 9 4), vq (some 57)] σ _ by rw [show gG σ 9 4 = ((nS w : Nat) : Int) by omega]; exact c_spellRow g σ v (nS w) 57 8 hv hN.2 (by decide) (sh hS rfl)) ss_RX4_35 rfl ⟨⟨by decide, by decide⟩, ⟨by decide, by decide⟩⟩ (Nat.le_of_ble_eq_true rfl) (fun r10 s10 p10 => ?_)
  obtain ⟨rfl, f, rfl, hf⟩ := p10
  have hK : XK σ (setA σ 57 f) := (XK.rf hz).onA (by decide) (Or.inl (by decide))
  have hS := (hK.xs hX).1
  refine V_puti dX4_layTold_13 (sp_RX4_39 _) rfl (sh hS rfl) ?_
  refine V_iconst dX4_layTold_16 ?_
  refine V_istore_n dX4_layTold_17 (by decide) rfl ?_
  refine V_mask [true, true, false, true] ?_
  refine loop _ 1 _ (Nat.lt_succ_self _) (Nat.le_refl _) (by omega) (hK.onG (by decide) (by decide)) (gG_is _ _ _ _) (fun j hj => ?_) (fun j h1 h2 => by rw [show j = 0 by omega]; exact Nat.le_refl _)
  rw [gG_ne _ _ (Or.inl (by decide))]
  exact hf j hj
/-- least, leak, worst, rings as answered -/
def leastA (w : Nat → Int) (s p what : Int) : Int := if (okSet w s ∧ (0 ≤ p ∧ p ≤ 99)) ∧ (0 ≤ what ∧ what ≤ 1) then (if what = 0 then leastW false w s.toNat p else digL (ringW w s.toNat p)) else -2
def leakA (w : Nat → Int) (v p : Int) : Int := if (0 ≤ p ∧ p ≤ 99) ∧ rgOK (spR w v) = true then leakL w (spR w v) p else -2
def worstA (w : Nat → Int) (v i what : Int) : Int := if (0 ≤ what ∧ what ≤ 1) ∧ rgOK (spR w v) = true then
    (if jrk (gapL w (spR w v)) (spR w v).length i (spR w v).length 0 = -1 then -1 else if what = 0 then jrk (gapL w (spR w v)) (spR w v).length i (spR w v).length 0 else gapL w (spR w v) (jrk (gapL w (spR w v)) (spR w v).length i (spR w v).length 0).toNat) else -2
def ringsA (w : Nat → Int) (s p most : Int) : Int := if (okSet w s ∧ (0 ≤ p ∧ p ≤ 99)) ∧ (0 ≤ most ∧ most ≤ 9999) then ringsW w s.toNat p most else -2
theorem c_least (g : Gl) (σ : St) (w : Nat → Int) (hX : XS σ w) (hz : Z0 σ) (s p what : Int) (h1 : inR s) (h2 : inR p) (h3 : inR what) : Ct g mX11_least 6 0 0 [vq (some 8), vi s, vi p, vi what] σ (PX (leastA w s p what) σ) := by
  refine Ct.of (by decide +kernel) (Nat.le_of_ble_eq_true rfl) ?_
  have hS := hX.1
  refine V_aload_n dX11_least_0 rfl ?_
  refine V_iload_n dX11_least_1 rfl ?_
  refine V_callV dX11_least_2 (c_isRingSet g _ w hX s h1) sv_RX11_188 (sh hS rfl) rfl ⟨⟨by decide, by decide⟩, ⟨by decide, by decide⟩⟩ (Nat.le_of_ble_eq_true rfl) (fun r2 s2 p2 => ?_)
  obtain ⟨rfl, rfl⟩ := p2
  refine V_ifeqB (tgt := 24) dX11_least_5 (by decide) (fun br5 => ?_) (fun br5 => ?_)
  · refine V_bipush dX11_least_24 (by decide) ?_
    refine V_iret dX11_least_26 rfl (Nat.le_refl _) (Nat.le_refl _) ?_
    exact PX_i (by unfold leastA; rw [if_neg (fun z => by first | exact br5 z.1.1 | exact br12 z.1.2 | exact br21 z.2)]) (XK.rf hz)
  · refine V_iload_n dX11_least_8 rfl ?_
    refine V_callS dX11_least_9 (c_isPress g _ _ (by omega)) ss_RX11_191 rfl ⟨⟨by decide, by decide⟩, ⟨by decide, by decide⟩⟩ (Nat.le_of_ble_eq_true rfl) (fun r9 s9 p9 => ?_)
    obtain ⟨rfl, rfl⟩ := p9
    refine V_ifeqB (tgt := 24) dX11_least_12 (by decide) (fun br12 => ?_) (fun br12 => ?_)
    · refine V_bipush dX11_least_24 (by decide) ?_
      refine V_iret dX11_least_26 rfl (Nat.le_refl _) (Nat.le_refl _) ?_
      exact PX_i (by unfold leastA; rw [if_neg (fun z => by first | exact br5 z.1.1 | exact br12 z.1.2 | exact br21 z.2)]) (XK.rf hz)
    · refine V_iload_n dX11_least_15 rfl ?_
      refine V_iconst dX11_least_16 ?_
      refine V_iconst dX11_least_17 ?_
      refine V_callS dX11_least_18 (c_isIn g _ _ _ _ (by omega) (by omega) (by omega)) ss_RX11_107 rfl ⟨⟨by decide, by decide⟩, ⟨by decide, by decide⟩⟩ (Nat.le_of_ble_eq_true rfl) (fun r18 s18 p18 => ?_)
      obtain ⟨rfl, rfl⟩ := p18
      refine V_ifneB (tgt := 27) dX11_least_21 (by decide) (fun br21 => ?_) (fun br21 => ?_)
      · obtain ⟨m, rfl, hm, h8, hs1⟩ := okSet_sz hX.2.2 br5
        refine V_aload_n dX11_least_27 rfl ?_
        refine V_getfr dX11_least_28 sf_RX11_52 (by decide) (sh hS rfl) (rf hS rfl) ?_
        refine V_aload_n dX11_least_31 rfl ?_
        refine V_getfr dX11_least_32 sf_RX11_12 (by decide) (sh hS rfl) (rf hS rfl) ?_
        refine V_iload_n dX11_least_35 rfl ?_
        refine V_iload_n dX11_least_36 rfl ?_
        refine V_callV dX11_least_37 (c_layLeast g _ w hX hz m hm p br12 h8 hs1) sv_RX11_194 (sh hS rfl) rfl ⟨⟨by decide, by decide⟩, ⟨by decide, by decide⟩⟩ (Nat.le_of_ble_eq_true rfl) (fun r37 s37 p37 => ?_)
        obtain ⟨rfl, hK, hL⟩ := p37
        have hX1 := hK.xs hX
        have hS := hX1.1
        have hlen := ringW_len (w := w) (s := m) (p := p) hs1
        rw [← hlen] at hL
        refine V_iload_n dX11_least_40 rfl ?_
        refine V_ifne (tgt := 55) dX11_least_41 (by decide) (by omega) (fun br41 => ?_) (fun br41 => ?_)
        · refine V_aload_n dX11_least_55 rfl ?_
          refine V_getfr dX11_least_56 sf_RX11_52 (by decide) (sh hS rfl) (rf hS rfl) ?_
          refine V_callV dX11_least_59 (c_digits g _ hS _ hL.1 (by omega) _ (fun j hj => (hL.2 j hj).1)) sv_RX11_201 (sh hS rfl) rfl ⟨⟨by decide, by decide⟩, ⟨by decide, by decide⟩⟩ (Nat.le_of_ble_eq_true rfl) (fun r59 s59 p59 => ?_)
          obtain ⟨rfl, rfl⟩ := p59
          refine V_iret dX11_least_62 rfl (Nat.le_refl _) (Nat.le_refl _) ?_
          first | exact PX_i (by unfold leastA; rw [if_pos ⟨⟨br5, br12⟩, br21⟩, if_pos br41, Int.toNat_natCast, LR_leak hL, leakL_least hX.2.2 br12.1 h8 hs1]) hK | exact PX_i (by unfold leastA; rw [if_pos ⟨⟨br5, br12⟩, br21⟩, if_neg br41, Int.toNat_natCast]; rfl) hK
        · refine V_aload_n dX11_least_44 rfl ?_
          refine V_getfr dX11_least_45 sf_RX11_52 (by decide) (sh hS rfl) (rf hS rfl) ?_
          refine V_iload_n dX11_least_48 rfl ?_
          refine V_callV dX11_least_49 (c_leakUnder g _ hS _ hL.1 (by omega) p br12 (LR_gap hX.2.2 hL)) sv_RX11_198 (sh hS rfl) rfl ⟨⟨by decide, by decide⟩, ⟨by decide, by decide⟩⟩ (Nat.le_of_ble_eq_true rfl) (fun r49 s49 p49 => ?_)
          obtain ⟨rfl, rfl⟩ := p49
          refine V_goto (tgt := 62) dX11_least_52 (by decide) ?_
          refine V_iret dX11_least_62 rfl (Nat.le_refl _) (Nat.le_refl _) ?_
          first | exact PX_i (by unfold leastA; rw [if_pos ⟨⟨br5, br12⟩, br21⟩, if_pos br41, Int.toNat_natCast, LR_leak hL, leakL_least hX.2.2 br12.1 h8 hs1]) hK | exact PX_i (by unfold leastA; rw [if_pos ⟨⟨br5, br12⟩, br21⟩, if_neg br41, Int.toNat_natCast]; rfl) hK
      · refine V_bipush dX11_least_24 (by decide) ?_
        refine V_iret dX11_least_26 rfl (Nat.le_refl _) (Nat.le_refl _) ?_
        exact PX_i (by unfold leastA; rw [if_neg (fun z => by first | exact br5 z.1.1 | exact br12 z.1.2 | exact br21 z.2)]) (XK.rf hz)
theorem c_leak (g : Gl) (σ : St) (w : Nat → Int) (hX : XS σ w) (hz : Z0 σ) (v p : Int) (h1 : inR v) (h2 : inR p) : Ct g mX11_leak 6 0 0 [vq (some 8), vi v, vi p] σ (PX (leakA w v p) σ) := by
  refine Ct.of (by decide +kernel) (Nat.le_of_ble_eq_true rfl) ?_
  have hS := hX.1
  refine V_iload_n dX11_leak_0 rfl ?_
  refine V_callS dX11_leak_1 (c_isPress g _ _ (by omega)) ss_RX11_191 rfl ⟨⟨by decide, by decide⟩, ⟨by decide, by decide⟩⟩ (Nat.le_of_ble_eq_true rfl) (fun r1 s1 p1 => ?_)
  obtain ⟨rfl, rfl⟩ := p1
  refine V_ifeqB (tgt := 22) dX11_leak_4 (by decide) (fun br4 => ?_) (fun br4 => ?_)
  · refine V_bipush dX11_leak_22 (by decide) ?_
    refine V_iret dX11_leak_24 rfl (Nat.le_refl _) (Nat.le_refl _) ?_
    first | exact PX_i (by unfold leakA; rw [if_neg (fun z => br19 z.2)]) hK | exact PX_i (by unfold leakA; rw [if_neg (fun z => br4 z.1)]) (XK.rf hz)
  · refine V_aload_n dX11_leak_7 rfl ?_
    refine V_getfr dX11_leak_8 sf_RX11_52 (by decide) (sh hS rfl) (rf hS rfl) ?_
    refine V_aload_n dX11_leak_11 rfl ?_
    refine V_getfr dX11_leak_12 sf_RX11_12 (by decide) (sh hS rfl) (rf hS rfl) ?_
    refine V_iload_n dX11_leak_15 rfl ?_
    refine V_callV dX11_leak_16 (c_layTold g _ w hX hz v h1) sv_RX11_204 (sh hS rfl) rfl ⟨⟨by decide, by decide⟩, ⟨by decide, by decide⟩⟩ (Nat.le_of_ble_eq_true rfl) (fun r16 s16 p16 => ?_)
    obtain ⟨rfl, hK, hL⟩ := p16
    have hX1 := hK.xs hX
    have hS := hX1.1
    refine V_ifneB (tgt := 25) dX11_leak_19 (by decide) (fun br19 => ?_) (fun br19 => ?_)
    · have hL := hL br19
      have hl8 : (spR w v).length ≤ 8 := spell_len
      refine V_aload_n dX11_leak_25 rfl ?_
      refine V_getfr dX11_leak_26 sf_RX11_52 (by decide) (sh hS rfl) (rf hS rfl) ?_
      refine V_iload_n dX11_leak_29 rfl ?_
      refine V_callV dX11_leak_30 (c_leakUnder g _ hS _ hL.1 hl8 p br4 (LR_gap hX.2.2 hL)) sv_RX11_198 (sh hS rfl) rfl ⟨⟨by decide, by decide⟩, ⟨by decide, by decide⟩⟩ (Nat.le_of_ble_eq_true rfl) (fun r30 s30 p30 => ?_)
      obtain ⟨rfl, rfl⟩ := p30
      refine V_iret dX11_leak_33 rfl (Nat.le_refl _) (Nat.le_refl _) ?_
      exact PX_i (by unfold leakA; rw [if_pos ⟨br4, br19⟩, LR_leak hL]) hK
    · refine V_bipush dX11_leak_22 (by decide) ?_
      refine V_iret dX11_leak_24 rfl (Nat.le_refl _) (Nat.le_refl _) ?_
      first | exact PX_i (by unfold leakA; rw [if_neg (fun z => br19 z.2)]) hK | exact PX_i (by unfold leakA; rw [if_neg (fun z => br4 z.1)]) (XK.rf hz)
theorem c_worst (g : Gl) (σ : St) (w : Nat → Int) (hX : XS σ w) (hz : Z0 σ) (v i what : Int) (h1 : inR v) (h2 : inR i) (h3 : inR what) : Ct g mX11_worst 6 0 0 [vq (some 8), vi v, vi i, vi what] σ (PX (worstA w v i what) σ) := by
  refine Ct.of (by decide +kernel) (Nat.le_of_ble_eq_true rfl) ?_
  have hS := hX.1
  refine V_iload_n dX11_worst_0 rfl ?_
  refine V_iconst dX11_worst_1 ?_
  refine V_iconst dX11_worst_2 ?_
  refine V_callS dX11_worst_3 (c_isIn g _ _ _ _ (by omega) (by omega) (by omega)) ss_RX11_107 rfl ⟨⟨by decide, by decide⟩, ⟨by decide, by decide⟩⟩ (Nat.le_of_ble_eq_true rfl) (fun r3 s3 p3 => ?_)
  obtain ⟨rfl, rfl⟩ := p3
  refine V_ifeqB (tgt := 24) dX11_worst_6 (by decide) (fun br6 => ?_) (fun br6 => ?_)
  · refine V_bipush dX11_worst_24 (by decide) ?_
    refine V_iret dX11_worst_26 rfl (Nat.le_refl _) (Nat.le_refl _) ?_
    first | exact PX_i (by unfold worstA; rw [if_neg (fun z => br21 z.2)]) hK | exact PX_i (by unfold worstA; rw [if_neg (fun z => br6 z.1)]) (XK.rf hz)
  · refine V_aload_n dX11_worst_9 rfl ?_
    refine V_getfr dX11_worst_10 sf_RX11_52 (by decide) (sh hS rfl) (rf hS rfl) ?_
    refine V_aload_n dX11_worst_13 rfl ?_
    refine V_getfr dX11_worst_14 sf_RX11_12 (by decide) (sh hS rfl) (rf hS rfl) ?_
    refine V_iload_n dX11_worst_17 rfl ?_
    refine V_callV dX11_worst_18 (c_layTold g _ w hX hz v h1) sv_RX11_204 (sh hS rfl) rfl ⟨⟨by decide, by decide⟩, ⟨by decide, by decide⟩⟩ (Nat.le_of_ble_eq_true rfl) (fun r18 s18 p18 => ?_)
    obtain ⟨rfl, hK, hL⟩ := p18
    have hX1 := hK.xs hX
    have hS := hX1.1
    refine V_ifneB (tgt := 27) dX11_worst_21 (by decide) (fun br21 => ?_) (fun br21 => ?_)
    · have hL := hL br21
      have hl8 : (spR w v).length ≤ 8 := spell_len
      have hge : ∀ j, j < (spR w v).length → gG s18 58 j = gapL w (spR w v) j := fun j hj => (hL.2 j hj).2.2
      have hjb := jrk_b (gapL w (spR w v)) (spR w v).length i (spR w v).length 0
      refine V_aload_n dX11_worst_27 rfl ?_
      refine V_getfr dX11_worst_28 sf_RX11_52 (by decide) (sh hS rfl) (rf hS rfl) ?_
      refine V_iload_n dX11_worst_31 rfl ?_
      refine V_callV dX11_worst_32 (c_jointOfRank g _ hS _ hL.1 hl8 (LR_gap hX.2.2 hL) i h2) sv_RX11_208 (sh hS rfl) rfl ⟨⟨by decide, by decide⟩, ⟨by decide, by decide⟩⟩ (Nat.le_of_ble_eq_true rfl) (fun r32 s32 p32 => ?_)
      obtain ⟨rfl, rfl⟩ := p32
      refine V_val (jrk_cong hge _ 0 (by omega)) ?_
      refine V_istore dX11_worst_35 (by decide) rfl ?_
      refine V_iload dX11_worst_37 rfl ?_
      refine V_iconst dX11_worst_39 ?_
      refine V_icmpne (tgt := 45) dX11_worst_40 (by decide) (by omega) (by omega) (fun br40 => ?_) (fun br40 => ?_)
      · refine V_iload_n dX11_worst_45 rfl ?_
        refine V_ifne (tgt := 54) dX11_worst_46 (by decide) (by omega) (fun br46 => ?_) (fun br46 => ?_)
        · refine V_aload_n dX11_worst_54 rfl ?_
          refine V_getfr dX11_worst_55 sf_RX11_52 (by decide) (sh hS rfl) (rf hS rfl) ?_
          refine V_getfr dX11_worst_58 sf_RX11_211 (by decide) (sh hS rfl) (rf hS rfl) ?_
          refine V_iload dX11_worst_61 rfl ?_
          refine V_iald dX11_worst_63 (sh hS rfl) (by omega) ?_
          skip
          refine V_iret dX11_worst_64 rfl (Nat.le_refl _) (Nat.le_refl _) ?_
          first | exact PX_i (by unfold worstA; rw [if_pos ⟨br6, br21⟩, if_neg br40, if_pos br46]) hK | exact PX_i (by unfold worstA; rw [if_pos ⟨br6, br21⟩, if_neg br40, if_neg br46, hge _ (by omega)]) hK
        · refine V_iload dX11_worst_49 rfl ?_
          refine V_goto (tgt := 64) dX11_worst_51 (by decide) ?_
          skip
          refine V_iret dX11_worst_64 rfl (Nat.le_refl _) (Nat.le_refl _) ?_
          first | exact PX_i (by unfold worstA; rw [if_pos ⟨br6, br21⟩, if_neg br40, if_pos br46]) hK | exact PX_i (by unfold worstA; rw [if_pos ⟨br6, br21⟩, if_neg br40, if_neg br46, hge _ (by omega)]) hK
      · refine V_iconst dX11_worst_43 ?_
        refine V_iret dX11_worst_44 rfl (Nat.le_refl _) (Nat.le_refl _) ?_
        exact PX_i (by unfold worstA; rw [if_pos ⟨br6, br21⟩, if_pos br40]) hK
    · refine V_bipush dX11_worst_24 (by decide) ?_
      refine V_iret dX11_worst_26 rfl (Nat.le_refl _) (Nat.le_refl _) ?_
      first | exact PX_i (by unfold worstA; rw [if_neg (fun z => br21 z.2)]) hK | exact PX_i (by unfold worstA; rw [if_neg (fun z => br6 z.1)]) (XK.rf hz)
theorem c_rings (g : Gl) (σ : St) (w : Nat → Int) (hX : XS σ w) (hz : Z0 σ) (s p most : Int) (h1 : inR s) (h2 : inR p) (h3 : inR most) : Ct g mX11_rings 10 0 0 [vq (some 8), vi s, vi p, vi most] σ (PX (ringsA w s p most) σ) := by
  refine Ct.of (by decide +kernel) (Nat.le_of_ble_eq_true rfl) ?_
  have hS := hX.1
  refine V_aload_n dX11_rings_0 rfl ?_
  refine V_iload_n dX11_rings_1 rfl ?_
  refine V_callV dX11_rings_2 (c_isRingSet g _ w hX s h1) sv_RX11_188 (sh hS rfl) rfl ⟨⟨by decide, by decide⟩, ⟨by decide, by decide⟩⟩ (Nat.le_of_ble_eq_true rfl) (fun r2 s2 p2 => ?_)
  obtain ⟨rfl, rfl⟩ := p2
  refine V_ifeqB (tgt := 26) dX11_rings_5 (by decide) (fun br5 => ?_) (fun br5 => ?_)
  · refine V_bipush dX11_rings_26 (by decide) ?_
    refine V_iret dX11_rings_28 rfl (Nat.le_refl _) (Nat.le_refl _) ?_
    exact PX_i (by unfold ringsA; rw [if_neg (fun z => by first | exact br5 z.1.1 | exact br12 z.1.2 | exact br23 z.2)]) (XK.rf hz)
  · refine V_iload_n dX11_rings_8 rfl ?_
    refine V_callS dX11_rings_9 (c_isPress g _ _ (by omega)) ss_RX11_191 rfl ⟨⟨by decide, by decide⟩, ⟨by decide, by decide⟩⟩ (Nat.le_of_ble_eq_true rfl) (fun r9 s9 p9 => ?_)
    obtain ⟨rfl, rfl⟩ := p9
    refine V_ifeqB (tgt := 26) dX11_rings_12 (by decide) (fun br12 => ?_) (fun br12 => ?_)
    · refine V_bipush dX11_rings_26 (by decide) ?_
      refine V_iret dX11_rings_28 rfl (Nat.le_refl _) (Nat.le_refl _) ?_
      exact PX_i (by unfold ringsA; rw [if_neg (fun z => by first | exact br5 z.1.1 | exact br12 z.1.2 | exact br23 z.2)]) (XK.rf hz)
    · refine V_iload_n dX11_rings_15 rfl ?_
      refine V_iconst dX11_rings_16 ?_
      refine V_sipush dX11_rings_17 (by decide) ?_
      refine V_callS dX11_rings_20 (c_isIn g _ _ _ _ (by omega) (by omega) (by omega)) ss_RX11_107 rfl ⟨⟨by decide, by decide⟩, ⟨by decide, by decide⟩⟩ (Nat.le_of_ble_eq_true rfl) (fun r20 s20 p20 => ?_)
      obtain ⟨rfl, rfl⟩ := p20
      refine V_ifneB (tgt := 29) dX11_rings_23 (by decide) (fun br23 => ?_) (fun br23 => ?_)
      · obtain ⟨m, rfl, hm, h8, hs1⟩ := okSet_sz hX.2.2 br5
        refine V_aload_n dX11_rings_29 rfl ?_
        refine V_getfr dX11_rings_30 sf_RX11_52 (by decide) (sh hS rfl) (rf hS rfl) ?_
        refine V_aload_n dX11_rings_33 rfl ?_
        refine V_getfr dX11_rings_34 sf_RX11_12 (by decide) (sh hS rfl) (rf hS rfl) ?_
        refine V_iload_n dX11_rings_37 rfl ?_
        refine V_iload_n dX11_rings_38 rfl ?_
        refine V_iload_n dX11_rings_39 rfl ?_
        refine V_callV dX11_rings_40 (c_howManyWithin g _ w hX hz m hm p br12 h8 hs1 most br23) sv_RX11_214 (sh hS rfl) rfl ⟨⟨by decide, by decide⟩, ⟨by decide, by decide⟩⟩ (Nat.le_of_ble_eq_true rfl) (fun r40 s40 p40 => ?_)
        obtain ⟨rfl, hK⟩ := p40
        refine V_iret dX11_rings_43 rfl (Nat.le_refl _) (Nat.le_refl _) ?_
        exact PX_i (by unfold ringsA; rw [if_pos ⟨⟨br5, br12⟩, br23⟩, Int.toNat_natCast]) hK
      · refine V_bipush dX11_rings_26 (by decide) ?_
        refine V_iret dX11_rings_28 rfl (Nat.le_refl _) (Nat.le_refl _) ?_
        exact PX_i (by unfold ringsA; rw [if_neg (fun z => by first | exact br5 z.1.1 | exact br12 z.1.2 | exact br23 z.2)]) (XK.rf hz)