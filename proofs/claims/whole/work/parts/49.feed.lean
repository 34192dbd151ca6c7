/-! the tape is fed -/
theorem b2_all : ∀ n : Nat, n < 128 → (iI (n : Int)).toInt8.toInt32.toInt = (n : Int) ∧ narrow .byte (.int (iI (n : Int))) = .int (iI (n : Int)) := by decide +kernel
theorem b2_of {x : Int} (h : 0 ≤ x ∧ x ≤ 127) : (iI x).toInt8.toInt32.toInt = x ∧ narrow .byte (.int (iI x)) = .int (iI x) := by
  obtain ⟨n, rfl⟩ : ∃ n : Nat, x = (n : Int) := ⟨x.toNat, by omega⟩
  exact b2_all n (by omega)
def fdN (A : Ab) (l : Int) : Ab := (aW A, aO A, up1 (aC A) 3 (aC A 3 + 1), up1 (aT A) (aC A 3).toNat l, aP A, aK A, aZ A, aI A, aX A)
def feedV (A : Ab) (l : Int) : Int := if 0 ≤ l ∧ l ≤ 127 then (if 80 ≤ aC A 3 then -4 else aC A 3 + 1) else -2
def feedN (A : Ab) (l : Int) : Ab := if 0 ≤ l ∧ l ≤ 127 then (if 80 ≤ aC A 3 then A else fdN A l) else A
theorem SR.low {σ τ : St} {a : Nat} {w : Nat → Int} (h : SR σ a w) (x1 : gl τ = gl σ) (x4 : gP τ = gP σ) (ha : gG τ a = gG σ a) (h4 : gG τ (a + 4) = gG σ (a + 4)) (h5 : ∀ b, 93 ≤ b → gG τ b = gG σ b) : SR τ a w := by
  obtain ⟨y1, y2, y3, y4, y5⟩ := h
  refine ⟨by rw [h4]; exact y1, by rw [ha]; exact y2, fun i hi => ?_, fun i hi => ?_, fun i hi => ?_⟩
  · obtain ⟨b, z1, z2, z3, z4⟩ := y3 i hi
    exact ⟨b, by rw [x4]; exact z1, z2, by rw [x1]; exact z3, by rw [h5 b z2]; exact z4⟩
  · obtain ⟨b, z1, z2, z3, z4⟩ := y4 i hi
    exact ⟨b, by rw [x4]; exact z1, z2, by rw [x1]; exact z3, by rw [h5 b z2]; exact z4⟩
  · obtain ⟨b, z1, z2, z3, z4⟩ := y5 i hi
    exact ⟨b, by rw [x4]; exact z1, z2, by rw [x1]; exact z3, by rw [h5 b z2]; exact z4⟩
/-- rows of the tape, the yard's own numbers: all else as it was -/
theorem CL.tape {σ τ : St} {A : Ab} (h : CL σ A) (x1 : gl τ = gl σ) (x2 : gn τ = gn σ) (x3 : gL τ = gL σ) (x4 : gP τ = gP σ) (x5 : ∀ a, a ≠ 8 → (a < 20 ∨ 51 < a) → gG τ a = gG σ a) {c t : Nat → Int} (h8 : gG τ 8 2 = aC A 0) (h85 : gG τ 8 5 = c 2) (hc0 : c 0 = aC A 0) (h20 : gG τ 20 4 = c 3) (h21 : ∀ k : Nat, (k : Int) < c 3 → gG τ 21 k = t k) : CL τ (aW A, aO A, c, t, aP A, aK A, aZ A, aI A, aX A) := by
  obtain ⟨c1, c2, c3, c4, c5, c6, c7, c8, c9, c10⟩ := h
  refine ⟨⟨by rw [x2]; exact c1.1, by rw [x1]; exact c1.2.1, by rw [x4]; exact c1.2.2⟩, c2.low x1 x4 (x5 9 (by decide) (by decide)) (x5 13 (by decide) (by decide)) (fun b hb => x5 b (by omega) (by omega)), ⟨by rw [x5 53 (by decide) (by decide)]; exact c3.1, by rw [x5 54 (by decide) (by decide)]; exact c3.2⟩, by rw [x1, x2]; exact c4, ⟨h8.trans hc0.symm, fun q => ?_⟩, ⟨h20, h21⟩, h85, by rw [x4]; exact c8, fun p hp => ?_, by rw [x4]; exact c10⟩
  · have q2 : aC A 0 = 1 := hc0.symm.trans q
    exact ⟨(c5.2 q2).1.low x1 x4 (x5 14 (by decide) (by decide)) (x5 18 (by decide) (by decide)) (fun b hb => x5 b (by omega) (by omega)), by rw [x4]; exact (c5.2 q2).2⟩
  · exact (show PG τ A p from (c9 p hp).eq x1 x4 x3 (fun b hb => x5 b (by omega) (by omega)))
theorem c_append (g : Gl) (σ : St) (A : Ab) (N : Nat) (hC : CL σ A) (hA : AI A N) (l : Int) (hl : 0 ≤ l ∧ l ≤ 127) : Ct g mX8_append 0 0 0 [vq (some 20), vi l] σ (PC (if 80 ≤ aC A 3 then -4 else aC A 3 + 1) (if 80 ≤ aC A 3 then A else fdN A l) σ) := by
  refine Ct.of (by decide +kernel) (Nat.le_of_ble_eq_true rfl) ?_
  have hS := hC.1
  have n : gG σ 20 4 = aC A 3 := hC.2.2.2.2.2.1.1
  have n2 := hA.2.2.2.2.1.1
  refine V_aload_n dX8_append_0 rfl ?_
  refine V_getfi dX8_append_1 sf_RX8_27 rfl (sh hS rfl) ?_
  refine V_val n ?_
  refine V_bipush dX8_append_4 (by decide) ?_
  refine V_icmplt (tgt := 12) dX8_append_6 (by decide) (by omega) (by omega) (fun br6 => ?_) (fun br6 => ?_)
  · refine V_aload_n dX8_append_12 rfl ?_
    refine V_getfr dX8_append_13 sf_RX8_9 (by decide) (sh hS rfl) (rf hS rfl) ?_
    refine V_aload_n dX8_append_16 rfl ?_
    refine V_getfi dX8_append_17 sf_RX8_27 rfl (sh hS rfl) ?_
    refine V_val n ?_
    refine V_iload_n dX8_append_20 rfl ?_
    refine V_bast dX8_append_21 (sh hS rfl) (by omega) (b2_of hl).2 ?_
    refine V_aload_n dX8_append_22 rfl ?_
    refine V_dup dX8_append_23 rfl ?_
    refine V_getfi dX8_append_24 sf_RX8_27 rfl (sh hS rfl) ?_
    refine V_val (show gG σ 20 4 = aC A 3 from n) ?_
    refine V_iconst dX8_append_27 ?_
    refine V_iadd dX8_append_28 ?_
    refine V_puti dX8_append_29 (sp_RX8_27 _) rfl (sh hS rfl) ?_
    refine V_aload_n dX8_append_32 rfl ?_
    refine V_getfi dX8_append_33 sf_RX8_27 rfl (sh hS rfl) ?_
    refine V_val (show _ = aC A 3 + 1 from gG_is _ _ _ _) ?_
    refine V_iret dX8_append_36 rfl (Nat.le_refl _) (Nat.le_refl _) ?_
    rw [if_neg (show ¬ 80 ≤ aC A 3 by omega), if_neg (show ¬ 80 ≤ aC A 3 by omega)]
    refine PC_i rfl (hC.tape (τ := setG (setG σ 21 (aC A 3).toNat l) 20 4 (aC A 3 + 1)) (c := up1 (aC A) 3 (aC A 3 + 1)) (t := up1 (aT A) (aC A 3).toNat l) rfl rfl rfl rfl (fun a h1 h2 => (up1_ne _ (by omega) _).trans (up1_ne _ (by omega) _)) hC.2.2.2.2.1.1 hC.2.2.2.2.2.2.1 rfl (gG_is _ _ _ _) (fun k hk => ?_)) (((FM.rf σ).onG _ _ (by decide)).onG _ _ (by decide))
    have hk2 : (k : Int) < aC A 3 + 1 := by rwa [up1_is] at hk
    refine (gG_ne _ _ (Or.inl (by decide))).trans ?_
    by_cases e : k = (aC A 3).toNat
    · subst e; rw [gG_is, up1_is]
    · rw [gG_ne _ _ (Or.inr e), up1_ne _ e]
      exact hC.2.2.2.2.2.1.2 k (by omega)
  · refine V_bipush dX8_append_9 (by decide) ?_
    refine V_iret dX8_append_11 rfl (Nat.le_refl _) (Nat.le_refl _) ?_
    rw [if_pos (show 80 ≤ aC A 3 by omega), if_pos (show 80 ≤ aC A 3 by omega)]
    exact PC_i rfl hC (FM.rf σ)
theorem c_feed (g : Gl) (σ : St) (A : Ab) (N : Nat) (hC : CL σ A) (hA : AI A N) (l : Int) (hl : inR l) : Ct g mX11_feed 1 0 0 [vq (some 8), vi l] σ (PC (feedV A l) (feedN A l) σ) := by
  refine Ct.of (by decide +kernel) (Nat.le_of_ble_eq_true rfl) ?_
  have hS := hC.1
  refine V_iload_n dX11_feed_0 rfl ?_
  refine V_iconst dX11_feed_1 ?_
  refine V_bipush dX11_feed_2 (by decide) ?_
  refine V_callS dX11_feed_4 (c_isIn g _ _ _ _ (by omega) (by omega) (by omega)) ss_RX11_107 rfl ⟨⟨by decide, by decide⟩, ⟨by decide, by decide⟩⟩ (Nat.le_of_ble_eq_true rfl) (fun r4 s4 p4 => ?_)
  obtain ⟨rfl, rfl⟩ := p4
  refine V_ifneB (tgt := 13) dX11_feed_7 (by decide) (fun br7 => ?_) (fun br7 => ?_)
  · refine V_aload_n dX11_feed_13 rfl ?_
    refine V_getfr dX11_feed_14 sf_RX11_34 (by decide) (sh hS rfl) (rf hS rfl) ?_
    refine V_iload_n dX11_feed_17 rfl ?_
    refine V_i2b dX11_feed_18 ?_
    refine V_val (b2_of br7).1 ?_
    refine V_callV dX11_feed_19 (c_append g _ A N hC hA l br7) sv_RX11_278 (sh hS rfl) rfl ⟨⟨by decide, by decide⟩, ⟨by decide, by decide⟩⟩ (Nat.le_of_ble_eq_true rfl) (fun r19 s19 p19 => ?_)
    obtain ⟨rfl, p19b⟩ := p19
    refine V_iret dX11_feed_22 rfl (Nat.le_refl _) (Nat.le_refl _) ?_
    unfold feedV feedN
    rw [if_pos br7, if_pos br7]
    exact ⟨rfl, p19b⟩
  · refine V_bipush dX11_feed_10 (by decide) ?_
    refine V_iret dX11_feed_12 rfl (Nat.le_refl _) (Nat.le_refl _) ?_
    unfold feedV feedN
    rw [if_neg br7, if_neg br7]
    exact PC_i rfl hC (FM.rf σ)