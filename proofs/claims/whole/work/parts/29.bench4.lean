/-! the ring bench: the first of the least, the ways within a room -/
theorem find_mem {P : Nat → Bool} {M n N : Nat} (hn : n < N) (hb : M.testBit n = true) (hp : P n = true) (hl : ∀ t ∈ mem M n, ¬ P t = true) : (mem M N).find? P = some n := by
  unfold mem
  rw [List.find?_filter, List.find?_range_eq_some]
  refine ⟨by simp [hb, hp], List.mem_range.mpr hn, fun j hj => ?_⟩
  by_cases h : M.testBit j = true
  · have := hl j (mem_in.mpr ⟨hj, h⟩)
    simp [h, this]
  · simp [h]
theorem c_firstOfLeast (g : Gl) (τ : St) (w : Nat → Int) (hX : XS τ w) (s : Nat) (p : Int) (hp : 0 ≤ p ∧ p ≤ 99) (h8 : szW w s ≤ 8) (hC : CH τ w s p) (hT : TB false τ w s p (2 ^ szW w s)) (M x K : Nat) (hM : M < 2 ^ szW w s) (hM2 : M % 2 = 0) (hx : x < szW w s) (hxM : ¬ M.testBit x = true) (hK : (mem M (szW w s)).length = K + 1) :
    Ct g mX4_firstOfLeast 1 0 0 [vq (some 55), vi (M : Int), vi (x : Int)] τ (rP (vi (nxt (cpl w s p) 0 K (mem M (szW w s)) x : Int)) τ) := by
  refine Ct.of (by decide +kernel) (Nat.le_of_ble_eq_true rfl) ?_
  have hS := hX.1
  have rx := sh60 hS (a := x) (by omega)
  have hM5 : M < 512 := Nat.lt_of_lt_of_le hM (Nat.le_trans (pw_le h8) (by decide))
  have hM6 : M < 256 := Nat.lt_of_lt_of_le hM (pw_le h8)
  have hc := cpl_ok hX.2.2 s hp.1
  have hlen : (mem M (szW w s)).length ≤ 8 := by
    have := List.length_filter_le (fun i => M.testBit i) (List.range (szW w s))
    rw [List.length_range] at this
    exact Nat.le_trans this h8
  have hok := nxt_ok hc 0 K (mem M (szW w s)) x (mem_nodup _ _) hK (by omega)
  have ht0 := hT M x hM hM hM2 hx hxM
  have hb0 := mn_b (wd := false) hc 0 (K + 1) (mem M (szW w s)) x (mem_nodup _ _) hK
  have et : tv false w s p M x = mn false (cpl w s p) 0 (K + 1) (mem M (szW w s)) x := by unfold tv; rw [hK]
  rw [et] at ht0
  have c1 := hC.1
  have loop : ∀ (m n : Nat), szW w s - n < m → 1 ≤ n → n ≤ szW w s → (∀ t ∈ mem M n, ¬ decide (opc false (cpl w s p x t) (mn false (cpl w s p) 0 K (drp (mem M (szW w s)) t) t) = mn false (cpl w s p) 0 (K + 1) (mem M (szW w s)) x) = true) →
      V g mX4_firstOfLeast (rmD 1 0 0) (QM g 0 0 (rP (vi (nxt (cpl w s p) 0 K (mem M (szW w s)) x : Int)) τ)) 14 [some (vq (some 55)), some (vi (M : Int)), some (vi (x : Int)), some (vi (mn false (cpl w s p) 0 (K + 1) (mem M (szW w s)) x)), some (vi (n : Int))] [] 0 0 τ := by
    intro m
    induction m with
    | zero => intro n hm; omega
    | succ m ih =>
      intro n hm h1 hn hno
      refine V_iload dX4_firstOfLeast_14 rfl ?_
      refine V_aload_n dX4_firstOfLeast_16 rfl ?_
      refine V_getfi dX4_firstOfLeast_17 sf_RX4_39 rfl (sh hS rfl) ?_
      refine V_icmpge (tgt := 71) dX4_firstOfLeast_20 (by decide) (by omega) (by omega) (fun br20 => ?_) (fun br20 => ?_)
      · have : n = szW w s := by omega
        subst this
        exact absurd (by rw [decide_eq_true_iff]; exact hok.2) (hno _ hok.1)
        skip
      · refine V_iload_n dX4_firstOfLeast_23 rfl ?_
        refine V_iload dX4_firstOfLeast_24 rfl ?_
        refine V_callS dX4_firstOfLeast_26 (c_holds g _ _ _ (by omega) (by omega)) ss_RX4_101 rfl ⟨⟨by decide, by decide⟩, ⟨by decide, by decide⟩⟩ (Nat.le_of_ble_eq_true rfl) (fun r26 s26 p26 => ?_)
        obtain ⟨rfl, rfl⟩ := p26
        refine V_ifeqB (tgt := 65) dX4_firstOfLeast_29 (by decide) (fun br29 => ?_) (fun br29 => ?_)
        · have hbt : ¬ M.testBit n = true := fun z => br29 ((bt_nat M n).mpr z)
          refine V_iinc dX4_firstOfLeast_65 rfl (by decide) rfl ?_
          refine V_goto (tgt := 14) dX4_firstOfLeast_68 (by decide) ?_
          refine V_mask [true, true, true, true, true] ?_
          refine ih (n + 1) (by omega) (by omega) (by omega) (fun t ht2 => ?_)
          rw [mem_s] at ht2
          rcases List.mem_append.mp ht2 with h | h
          · exact hno t h
          · first
              | (rw [if_neg hbt] at h; cases h)
              | (rw [if_pos hbt, List.mem_singleton] at h
                 subst h
                 rw [decide_eq_true_iff]
                 exact br59)
        · have hbt := (bt_nat M n).mp br29
          have hnl : n < szW w s := by omega
          have hin : n ∈ mem M (szW w s) := mem_in.mpr ⟨hnl, hbt⟩
          have bdn := mn_b (wd := false) hc 0 K _ n (drp_nodup (mem_nodup M (szW w s)) n) (by have := drp_len (mem_nodup M (szW w s)) hin; omega)
          have cn := hc x n
          have hbits := bits_all M hM5 n (by omega) hbt
          have hM' := hbits.2.1
          have hne : ¬ (M - 2 ^ n).testBit n = true := by rw [hbits.1 n (by omega)]; simp
          have hP1 : 1 ≤ 2 ^ n := Nat.two_pow_pos n
          have ht := hT (M - 2 ^ n) n (by omega) (by omega) (by rw [hbits.2.2 h1]; exact hM2) hnl hne
          have hv : tv false w s p (M - 2 ^ n) n = mn false (cpl w s p) 0 K (drp (mem M (szW w s)) n) n := by
            unfold tv
            rw [mem_clr hM5 (by omega) (by omega) hbt]
            have := drp_len (mem_nodup M (szW w s)) hin
            rw [show (drp (mem M (szW w s)) n).length = K by omega]
          rw [hv] at ht
          refine V_aload_n dX4_firstOfLeast_32 rfl ?_
          refine V_getfr dX4_firstOfLeast_33 sf_RX4_23 (by decide) (sh hS rfl) (rf hS rfl) ?_
          refine V_iload_n dX4_firstOfLeast_36 rfl ?_
          refine V_aald dX4_firstOfLeast_37 (sh hS rfl) (by decide) (by omega) (show gP _ 59 (Int.toNat (x : Int)) = some (60 + x) by rw [Int.toNat_natCast]; exact rx.2) ?_
          refine V_iload dX4_firstOfLeast_38 rfl ?_
          refine V_iald dX4_firstOfLeast_40 rx.1 (by omega) ?_
          refine V_val (show _ = cpl w s p x n by rw [Int.toNat_natCast]; exact hC.2.2 x n hx hnl) ?_
          refine V_aload_n dX4_firstOfLeast_41 rfl ?_
          refine V_getfr dX4_firstOfLeast_42 sf_RX4_26 (by decide) (sh hS rfl) (rf hS rfl) ?_
          refine V_iload_n dX4_firstOfLeast_45 rfl ?_
          refine V_iload dX4_firstOfLeast_46 rfl ?_
          refine V_callS dX4_firstOfLeast_48 (c_without g _ _ _ (by omega) (by omega) (by omega) (by omega)) ss_RX4_109 rfl ⟨⟨by decide, by decide⟩, ⟨by decide, by decide⟩⟩ (Nat.le_of_ble_eq_true rfl) (fun r48 s48 p48 => ?_)
          obtain ⟨rfl, rfl⟩ := p48
          refine V_val (clr_nat hM5 (by omega) hbt) ?_
          refine V_iload dX4_firstOfLeast_51 rfl ?_
          refine V_callS dX4_firstOfLeast_53 (c_cellOf g _ (M - 2 ^ n) n (by omega) (by omega)) ss_RX4_75 rfl ⟨⟨by decide, by decide⟩, ⟨by decide, by decide⟩⟩ (Nat.le_of_ble_eq_true rfl) (fun r53 s53 p53 => ?_)
          obtain ⟨rfl, rfl⟩ := p53
          refine V_iald dX4_firstOfLeast_56 (sh hS rfl) (by (have := Nat.sub_le M (2 ^ n); omega)) ?_
          refine V_val (show _ = mn false (cpl w s p) 0 K (drp (mem M (szW w s)) n) n by rw [Int.toNat_natCast]; exact ht) ?_
          refine V_iadd dX4_firstOfLeast_57 ?_
          refine V_iload_n dX4_firstOfLeast_58 rfl ?_
          refine V_icmpne (tgt := 65) dX4_firstOfLeast_59 (by decide) (by omega) (by omega) (fun br59 => ?_) (fun br59 => ?_)
          · refine V_iinc dX4_firstOfLeast_65 rfl (by decide) rfl ?_
            refine V_goto (tgt := 14) dX4_firstOfLeast_68 (by decide) ?_
            refine V_mask [true, true, true, true, true] ?_
            refine ih (n + 1) (by omega) (by omega) (by omega) (fun t ht2 => ?_)
            rw [mem_s] at ht2
            rcases List.mem_append.mp ht2 with h | h
            · exact hno t h
            · first
                | (rw [if_neg hbt] at h; cases h)
                | (rw [if_pos hbt, List.mem_singleton] at h
                   subst h
                   rw [decide_eq_true_iff]
                   exact br59)
          · refine V_iload dX4_firstOfLeast_62 rfl ?_
            refine V_iret dX4_firstOfLeast_64 rfl (Nat.le_refl _) (Nat.le_refl _) ?_
            exact rP_i (by unfold nxt; rw [find_mem hnl hbt (by rw [decide_eq_true_iff]; exact br59) hno]; rfl) rfl
  refine V_aload_n dX4_firstOfLeast_0 rfl ?_
  refine V_getfr dX4_firstOfLeast_1 sf_RX4_26 (by decide) (sh hS rfl) (rf hS rfl) ?_
  refine V_iload_n dX4_firstOfLeast_4 rfl ?_
  refine V_iload_n dX4_firstOfLeast_5 rfl ?_
  refine V_callS dX4_firstOfLeast_6 (c_cellOf g _ M x (by omega) (by omega)) ss_RX4_75 rfl ⟨⟨by decide, by decide⟩, ⟨by decide, by decide⟩⟩ (Nat.le_of_ble_eq_true rfl) (fun r6 s6 p6 => ?_)
  obtain ⟨rfl, rfl⟩ := p6
  refine V_iald dX4_firstOfLeast_9 (sh hS rfl) (by omega) ?_
  refine V_val (show _ = mn false (cpl w s p) 0 (K + 1) (mem M (szW w s)) x by rw [Int.toNat_natCast]; exact ht0) ?_
  refine V_istore_n dX4_firstOfLeast_10 (by decide) rfl ?_
  refine V_iconst dX4_firstOfLeast_11 ?_
  refine V_istore dX4_firstOfLeast_12 (by decide) rfl ?_
  refine V_mask [true, true, true, true, true] ?_
  refine loop _ 1 (Nat.lt_succ_self _) (Nat.le_refl _) (by omega) (fun t ht => ?_)
  rw [mem_1 hM2] at ht
  cases ht
theorem cr0 {d D : Nat} (h : d + 1 ≤ D) : CR (rmD D 0 0) d 0 0 0 0 := ⟨⟨h, Nat.mul_le_mul_left 41 h⟩, ⟨Nat.le_refl _, Nat.le_refl _⟩⟩
theorem c_countOnward (g : Gl) (τ : St) (w : Nat → Int) (hX : XS τ w) (s : Nat) (p : Int) (hp : 0 ≤ p ∧ p ≤ 99) (h8 : szW w s ≤ 8) (hC : CH τ w s p) : ∀ (K M x : Nat) (r d : Int), M < 2 ^ szW w s → M % 2 = 0 → x < szW w s → (mem M (szW w s)).length = K → 1 ≤ d → d + K ≤ 8 → (-2000 ≤ r ∧ r ≤ 9999) →
    Ct g mX4_countOnward (K + 1) 0 0 [vq (some 59), vi (szW w s : Int), vi (M : Int), vi (x : Int), vi r, vi d] τ (rP (vi (ct (cpl w s p) 0 K (mem M (szW w s)) x r)) τ) := by
  have hS := hX.1
  have hc := cpl_ok hX.2.2 s hp.1
  intro K
  induction K with
  | zero =>
    intro M x r d hM hM2 hx hK hd hd2 hr
    refine Ct.of (by decide +kernel) (Nat.le_of_ble_eq_true rfl) ?_
    have rx := sh60 hS (a := x) (by omega)
    have hM0 : M = 0 := by
      rcases Nat.eq_zero_or_pos M with h | h
      · exact h
      · exact absurd (List.length_eq_zero_iff.mp hK) (mem_ne hM (by omega))
    subst hM0
    have cx := hc x 0
    refine V_iload dX4_countOnward_0 rfl ?_
    refine V_bipush dX4_countOnward_2 (by decide) ?_
    refine V_icmple (tgt := 9) dX4_countOnward_4 (by decide) (by omega) (by omega) (fun br4 => ?_) (fun br4 => ?_)
    · refine V_iload_n dX4_countOnward_9 rfl ?_
      refine V_ifne (tgt := 29) dX4_countOnward_10 (by decide) (by omega) (fun br10 => ?_) (fun br10 => ?_)
      · exact absurd rfl br10
      · refine V_aload_n dX4_countOnward_13 rfl ?_
        refine V_iload_n dX4_countOnward_14 rfl ?_
        refine V_aald dX4_countOnward_15 (sh hS rfl) (by decide) (by omega) (show gP _ 59 (Int.toNat (x : Int)) = some (60 + x) by rw [Int.toNat_natCast]; exact rx.2) ?_
        refine V_iconst dX4_countOnward_16 ?_
        refine V_iald dX4_countOnward_17 rx.1 (by omega) ?_
        refine V_val (show _ = cpl w s p x 0 from by rw [show (0 : Int).toNat = 0 from rfl]; exact hC.2.2 x 0 hx (by omega)) ?_
        refine V_iload dX4_countOnward_18 rfl ?_
        refine V_icmpgt (tgt := 27) dX4_countOnward_20 (by decide) (by omega) (by omega) (fun br20 => ?_) (fun br20 => ?_)
        · refine V_iconst dX4_countOnward_27 ?_
          refine V_iret dX4_countOnward_28 rfl (Nat.le_refl _) (Nat.le_refl _) ?_
          exact rP_i (by show _ = (if cpl w s p x 0 ≤ r then (1 : Int) else 0); first | rw [if_pos (by omega)] | rw [if_neg (by omega)]) rfl
        · refine V_iconst dX4_countOnward_23 ?_
          refine V_goto (tgt := 28) dX4_countOnward_24 (by decide) ?_
          refine V_iret dX4_countOnward_28 rfl (Nat.le_refl _) (Nat.le_refl _) ?_
          exact rP_i (by show _ = (if cpl w s p x 0 ≤ r then (1 : Int) else 0); first | rw [if_pos (by omega)] | rw [if_neg (by omega)]) rfl
    · omega
  | succ K ihK =>
    intro M x r d hM hM2 hx hK hd hd2 hr
    refine Ct.of (by decide +kernel) (Nat.le_of_ble_eq_true rfl) ?_
    have rx := sh60 hS (a := x) (by omega)
    have hM0 : M ≠ 0 := by
      intro h
      rw [h, mem_0] at hK
      cases hK
    have hM5 : M < 512 := Nat.lt_of_lt_of_le hM (Nat.le_trans (pw_le h8) (by decide))
    have hlen : (mem M (szW w s)).length ≤ 8 := by
      have := List.length_filter_le (fun i => M.testBit i) (List.range (szW w s))
      rw [List.length_range] at this
      exact Nat.le_trans this h8
    have loop : ∀ (m n : Nat), szW w s - n < m → 1 ≤ n → n ≤ szW w s →
        V g mX4_countOnward (rmD (K + 1 + 1) 0 0) (QM g 0 0 (rP (vi (ct (cpl w s p) 0 (K + 1) (mem M (szW w s)) x r)) τ)) 35 [some (vq (some 59)), some (vi (szW w s : Int)), some (vi (M : Int)), some (vi (x : Int)), some (vi r), some (vi d), some (vi (sumL ((mem M n).map fun t => ct (cpl w s p) 0 K (drp (mem M (szW w s)) t) t (r - cpl w s p x t)))), some (vi (n : Int))] [] 0 0 τ := by
      intro m
      induction m with
      | zero => intro n hm; omega
      | succ m ih =>
        intro n hm h1 hn
        refine V_iload dX4_countOnward_35 rfl ?_
        refine V_iload_n dX4_countOnward_37 rfl ?_
        refine V_icmpge (tgt := 98) dX4_countOnward_38 (by decide) (by omega) (by omega) (fun br38 => ?_) (fun br38 => ?_)
        · have : n = szW w s := by omega
          subst this
          refine V_iload dX4_countOnward_98 rfl ?_
          refine V_iret dX4_countOnward_100 rfl (Nat.le_refl _) (Nat.le_refl _) ?_
          exact rP_i rfl rfl
        · refine V_iload_n dX4_countOnward_41 rfl ?_
          refine V_iload dX4_countOnward_42 rfl ?_
          refine V_callS dX4_countOnward_44 (c_holds g _ _ _ (by omega) (by omega)) ss_RX4_101 rfl (cr0 (by omega)) (Nat.le_of_ble_eq_true rfl) (fun r44 s44 p44 => ?_)
          obtain ⟨rfl, rfl⟩ := p44
          refine V_ifeqB (tgt := 92) dX4_countOnward_47 (by decide) (fun br47 => ?_) (fun br47 => ?_)
          · have hbt : ¬ M.testBit n = true := fun z => br47 ((bt_nat M n).mpr z)
            refine V_iinc dX4_countOnward_92 rfl (by decide) rfl ?_
            refine V_goto (tgt := 35) dX4_countOnward_95 (by decide) ?_
            refine V_mask [true, true, true, true, true, true, true, true] ?_
            first
              | (have q := ih (n + 1) (by omega) (by omega) (by omega)
                 rw [mem_s, if_neg hbt, List.append_nil] at q
                 exact q)
              | (have q := ih (n + 1) (by omega) (by omega) (by omega)
                 rw [mem_s, if_pos hbt, List.map_append, List.map_singleton, sumL_app, ct_neg hc 0 K _ _ _ (by omega), Int.add_zero] at q
                 exact q)
              | (have q := ih (n + 1) (by omega) (by omega) (by omega)
                 rw [mem_s, if_pos hbt, List.map_append, List.map_singleton, sumL_app, ← mem_clr hM5 (by omega) (by omega) hbt] at q
                 exact q)
          · have hbt := (bt_nat M n).mp br47
            have hnl : n < szW w s := by omega
            have hin : n ∈ mem M (szW w s) := mem_in.mpr ⟨hnl, hbt⟩
            have cn := hc x n
            have hbits := bits_all M hM5 n (by omega) hbt
            have hM' := hbits.2.1
            have hP1 : 1 ≤ 2 ^ n := Nat.two_pow_pos n
            have hk2 : (mem (M - 2 ^ n) (szW w s)).length = K := by
              rw [mem_clr hM5 (by omega) (by omega) hbt]
              have := drp_len (mem_nodup M (szW w s)) hin
              omega
            refine V_aload_n dX4_countOnward_50 rfl ?_
            refine V_iload_n dX4_countOnward_51 rfl ?_
            refine V_aald dX4_countOnward_52 (sh hS rfl) (by decide) (by omega) (show gP _ 59 (Int.toNat (x : Int)) = some (60 + x) by rw [Int.toNat_natCast]; exact rx.2) ?_
            refine V_iload dX4_countOnward_53 rfl ?_
            refine V_iald dX4_countOnward_55 rx.1 (by omega) ?_
            refine V_val (show _ = cpl w s p x n by rw [Int.toNat_natCast]; exact hC.2.2 x n hx hnl) ?_
            refine V_iload dX4_countOnward_56 rfl ?_
            refine V_icmpgt (tgt := 92) dX4_countOnward_58 (by decide) (by omega) (by omega) (fun br58 => ?_) (fun br58 => ?_)
            · refine V_iinc dX4_countOnward_92 rfl (by decide) rfl ?_
              refine V_goto (tgt := 35) dX4_countOnward_95 (by decide) ?_
              refine V_mask [true, true, true, true, true, true, true, true] ?_
              first
                | (have q := ih (n + 1) (by omega) (by omega) (by omega)
                   rw [mem_s, if_neg hbt, List.append_nil] at q
                   exact q)
                | (have q := ih (n + 1) (by omega) (by omega) (by omega)
                   rw [mem_s, if_pos hbt, List.map_append, List.map_singleton, sumL_app, ct_neg hc 0 K _ _ _ (by omega), Int.add_zero] at q
                   exact q)
                | (have q := ih (n + 1) (by omega) (by omega) (by omega)
                   rw [mem_s, if_pos hbt, List.map_append, List.map_singleton, sumL_app, ← mem_clr hM5 (by omega) (by omega) hbt] at q
                   exact q)
            · refine V_iload dX4_countOnward_61 rfl ?_
              refine V_aload_n dX4_countOnward_63 rfl ?_
              refine V_iload_n dX4_countOnward_64 rfl ?_
              refine V_iload_n dX4_countOnward_65 rfl ?_
              refine V_iload dX4_countOnward_66 rfl ?_
              refine V_callS dX4_countOnward_68 (c_without g _ _ _ (by omega) (by omega) (by omega) (by omega)) ss_RX4_109 rfl (cr0 (by omega)) (Nat.le_of_ble_eq_true rfl) (fun r68 s68 p68 => ?_)
              obtain ⟨rfl, rfl⟩ := p68
              refine V_val (clr_nat hM5 (by omega) hbt) ?_
              refine V_iload dX4_countOnward_71 rfl ?_
              refine V_iload dX4_countOnward_73 rfl ?_
              refine V_aload_n dX4_countOnward_75 rfl ?_
              refine V_iload_n dX4_countOnward_76 rfl ?_
              refine V_aald dX4_countOnward_77 (sh hS rfl) (by decide) (by omega) (show gP _ 59 (Int.toNat (x : Int)) = some (60 + x) by rw [Int.toNat_natCast]; exact rx.2) ?_
              refine V_iload dX4_countOnward_78 rfl ?_
              refine V_iald dX4_countOnward_80 rx.1 (by omega) ?_
              refine V_val (show _ = cpl w s p x n by rw [Int.toNat_natCast]; exact hC.2.2 x n hx hnl) ?_
              refine V_isub dX4_countOnward_81 ?_
              refine V_iload dX4_countOnward_82 rfl ?_
              refine V_iconst dX4_countOnward_84 ?_
              refine V_iadd dX4_countOnward_85 ?_
              refine V_callS dX4_countOnward_86 (ihK (M - 2 ^ n) n (r - cpl w s p x n) (d + 1) (by omega) (by rw [hbits.2.2 h1]; exact hM2) hnl hk2 (by omega) (by omega) (by omega)) ss_RX4_71 rfl (cr0 (by omega)) (Nat.le_of_ble_eq_true rfl) (fun r86 s86 p86 => ?_)
              obtain ⟨rfl, rfl⟩ := p86
              refine V_iadd dX4_countOnward_89 ?_
              refine V_istore dX4_countOnward_90 (by decide) rfl ?_
              refine V_iinc dX4_countOnward_92 rfl (by decide) rfl ?_
              refine V_goto (tgt := 35) dX4_countOnward_95 (by decide) ?_
              refine V_mask [true, true, true, true, true, true, true, true] ?_
              first
                | (have q := ih (n + 1) (by omega) (by omega) (by omega)
                   rw [mem_s, if_neg hbt, List.append_nil] at q
                   exact q)
                | (have q := ih (n + 1) (by omega) (by omega) (by omega)
                   rw [mem_s, if_pos hbt, List.map_append, List.map_singleton, sumL_app, ct_neg hc 0 K _ _ _ (by omega), Int.add_zero] at q
                   exact q)
                | (have q := ih (n + 1) (by omega) (by omega) (by omega)
                   rw [mem_s, if_pos hbt, List.map_append, List.map_singleton, sumL_app, ← mem_clr hM5 (by omega) (by omega) hbt] at q
                   exact q)
    refine V_iload dX4_countOnward_0 rfl ?_
    refine V_bipush dX4_countOnward_2 (by decide) ?_
    refine V_icmple (tgt := 9) dX4_countOnward_4 (by decide) (by omega) (by omega) (fun br4 => ?_) (fun br4 => ?_)
    · refine V_iload_n dX4_countOnward_9 rfl ?_
      refine V_ifne (tgt := 29) dX4_countOnward_10 (by decide) (by omega) (fun br10 => ?_) (fun br10 => ?_)
      · refine V_iconst dX4_countOnward_29 ?_
        refine V_istore dX4_countOnward_30 (by decide) rfl ?_
        refine V_iconst dX4_countOnward_32 ?_
        refine V_istore dX4_countOnward_33 (by decide) rfl ?_
        refine V_mask [true, true, true, true, true, true, true, true] ?_
        have q := loop _ 1 (Nat.lt_succ_self _) (Nat.le_refl _) (by omega)
        rw [mem_1 hM2] at q
        exact q
      · omega
    · omega
theorem pw2 {n : Nat} (h : 1 ≤ n) : (2 ^ n - 2) % 2 = 0 ∧ 2 ≤ 2 ^ n := by
  have h1 : 2 ^ 1 ≤ 2 ^ n := pw_le h
  have : 2 ^ n = 2 * 2 ^ (n - 1) := by rw [← Nat.pow_succ']; congr 1; omega
  omega
theorem all_mem : ∀ n : Nat, n < 9 → mem (2 ^ n - 2) n = (List.range n).tail ∧ (1 ≤ n → (2 ^ n - 2).testBit 0 = false) := by decide +kernel
/-- the staves of a set: the least, and the others -/
def hdW (w : Nat → Int) (s : Nat) : Nat := atW w s 0
def tlW (w : Nat → Int) (s : Nat) : List Nat := (mem s (nS w)).tail
theorem map_at (l : List Nat) : (List.range l.length).map (fun k => l.getD k 0) = l := by
  apply List.ext_getElem?
  intro i
  rw [List.getElem?_map]
  by_cases h : i < l.length
  · rw [List.getElem?_range h]
    simp [List.getD_eq_getElem?_getD, List.getElem?_eq_getElem h]
  · rw [List.getElem?_eq_none (by rw [List.length_range]; omega), List.getElem?_eq_none (by omega)]
    rfl
theorem tl_map {w : Nat → Int} {s : Nat} (h8 : szW w s ≤ 8) : (mem (2 ^ szW w s - 2) (szW w s)).map (atW w s) = tlW w s := by
  rw [(all_mem _ (by omega)).1, List.map_tail]
  congr 1
  exact map_at (mem s (nS w))
theorem at_inj {w : Nat → Int} {s : Nat} {a b : Nat} (ha : a < szW w s) (hb : b < szW w s) (h : atW w s a = atW w s b) : a = b := by
  have hn := mem_nodup s (nS w)
  unfold atW mAt at h
  rw [List.getD_eq_getElem?_getD, List.getD_eq_getElem?_getD, List.getElem?_eq_getElem ha, List.getElem?_eq_getElem hb] at h
  have key := List.pairwise_iff_getElem.mp hn
  rcases Nat.lt_trichotomy a b with q | q | q
  · exact absurd h (key a b ha hb q)
  · exact q
  · exact absurd h.symm (key b a hb ha q)
theorem at_inj' {w : Nat → Int} {s M : Nat} : ∀ a ∈ mem M (szW w s), ∀ b ∈ mem M (szW w s), atW w s a = atW w s b → a = b := fun a ha b hb h => at_inj (mem_in.mp ha).1 (mem_in.mp hb).1 h
/-- what the least ring of a set costs; how tight the tightest is; how many rings cost no more than r; the least ring -/
def leastW (wd : Bool) (w : Nat → Int) (s : Nat) (p : Int) : Int := mn wd (cst w p) (hdW w s) (szW w s - 1) (tlW w s) (hdW w s)
def ringsW (w : Nat → Int) (s : Nat) (p r : Int) : Int := ct (cst w p) (hdW w s) (szW w s - 1) (tlW w s) (hdW w s) r
def ringW (w : Nat → Int) (s : Nat) (p : Int) : List Nat := hdW w s :: ar (cst w p) (hdW w s) (szW w s - 1) (tlW w s) (hdW w s)
theorem all_len {w : Nat → Int} {s : Nat} (h8 : szW w s ≤ 8) : (mem (2 ^ szW w s - 2) (szW w s)).length = szW w s - 1 := by
  rw [(all_mem _ (by omega)).1, List.length_tail, List.length_range]
theorem tv_all {wd : Bool} {w : Nat → Int} {s : Nat} {p : Int} (h8 : szW w s ≤ 8) : tv wd w s p (2 ^ szW w s - 2) 0 = leastW wd w s p := by
  unfold tv leastW hdW
  rw [all_len h8, ← tl_map h8]
  exact (mn_map (h := atW w s) (f := 0) (szW w s - 1) _ 0 at_inj').symm
theorem c_tightPress (g : Gl) (σ : St) (w : Nat → Int) (hX : XS σ w) (hz : Z0 σ) (s : Nat) (hs : s < 512) (h8 : szW w s ≤ 8) (h1 : 1 ≤ szW w s) : Ct g mX4_tightPress 5 0 0 [vq (some 55), vq (some 9), vi (s : Int)] σ (PX (leastW true w s 0) σ) := by
  refine Ct.of (by decide +kernel) (Nat.le_of_ble_eq_true rfl) ?_
  have hS := hX.1
  have hp2 := pw2 h1
  have hp3 : 2 ^ szW w s ≤ 2 ^ 8 := pw_le h8
  refine V_aload_n dX4_tightPress_0 rfl ?_
  refine V_aload_n dX4_tightPress_1 rfl ?_
  refine V_iload_n dX4_tightPress_2 rfl ?_
  refine V_iconst dX4_tightPress_3 ?_
  refine V_callV dX4_tightPress_4 (c_choose g _ w hX hz s hs 0 (by decide) h8) sv_RX4_46 (sh hS rfl) rfl ⟨⟨by decide, by decide⟩, ⟨by decide, by decide⟩⟩ (Nat.le_of_ble_eq_true rfl) (fun r4 s4 p4 => ?_)
  obtain ⟨rfl, hK, hC⟩ := p4
  have hX1 := hK.xs hX
  have hS := hX1.1
  refine V_aload_n dX4_tightPress_7 rfl ?_
  refine V_iconst dX4_tightPress_8 ?_
  refine V_callV dX4_tightPress_9 (c_weigh g _ w hX1 hK.2.2.2.2.2 s 0 (by decide) h8 h1 hC true) sv_RX4_50 (sh hS rfl) rfl ⟨⟨by decide, by decide⟩, ⟨by decide, by decide⟩⟩ (Nat.le_of_ble_eq_true rfl) (fun r9 s9 p9 => ?_)
  obtain ⟨rfl, hK2, hC2, hT⟩ := p9
  have hX2 := hK2.xs hX1
  have hS := hX2.1
  refine V_aload_n dX4_tightPress_12 rfl ?_
  refine V_getfr dX4_tightPress_13 sf_RX4_26 (by decide) (sh hS rfl) (rf hS rfl) ?_
  refine V_aload_n dX4_tightPress_16 rfl ?_
  refine V_callV dX4_tightPress_17 (c_allButFirst g _ hS (szW w s) hC2.1 h8) sv_RX4_54 (sh hS rfl) rfl ⟨⟨by decide, by decide⟩, ⟨by decide, by decide⟩⟩ (Nat.le_of_ble_eq_true rfl) (fun r17 s17 p17 => ?_)
  obtain ⟨rfl, rfl⟩ := p17
  refine V_val (show _ = ((2 ^ szW w s - 2 : Nat) : Int) by omega) ?_
  skip
  refine V_iconst dX4_tightPress_20 ?_
  refine V_callS dX4_tightPress_21 (c_cellOf g _ (2 ^ szW w s - 2) 0 (by omega) (by omega)) ss_RX4_75 rfl ⟨⟨by decide, by decide⟩, ⟨by decide, by decide⟩⟩ (Nat.le_of_ble_eq_true rfl) (fun r21 s21 p21 => ?_)
  obtain ⟨rfl, rfl⟩ := p21
  refine V_iald dX4_tightPress_24 (sh hS rfl) (by omega) ?_
  refine V_iret dX4_tightPress_25 rfl (Nat.le_refl _) (Nat.le_refl _) ?_
  exact PX_i (by rw [Int.toNat_natCast, hT _ 0 (by omega) (by omega) hp2.1 (by omega) (by rw [(all_mem _ (by omega)).2 h1]; decide), tv_all h8]) (hK.tr hK2)
theorem c_howManyWithin (g : Gl) (σ : St) (w : Nat → Int) (hX : XS σ w) (hz : Z0 σ) (s : Nat) (hs : s < 512) (p : Int) (hp : 0 ≤ p ∧ p ≤ 99) (h8 : szW w s ≤ 8) (h1 : 1 ≤ szW w s) (r : Int) (hr : 0 ≤ r ∧ r ≤ 9999) : Ct g mX4_howManyWithin 9 0 0 [vq (some 55), vq (some 9), vi (s : Int), vi p, vi r] σ (PX (ringsW w s p r) σ) := by
  refine Ct.of (by decide +kernel) (Nat.le_of_ble_eq_true rfl) ?_
  have hS := hX.1
  have hp2 := pw2 h1
  have hp3 : 2 ^ szW w s ≤ 2 ^ 8 := pw_le h8
  refine V_aload_n dX4_howManyWithin_0 rfl ?_
  refine V_aload_n dX4_howManyWithin_1 rfl ?_
  refine V_iload_n dX4_howManyWithin_2 rfl ?_
  refine V_iload_n dX4_howManyWithin_3 rfl ?_
  refine V_callV dX4_howManyWithin_4 (c_choose g _ w hX hz s hs p hp h8) sv_RX4_46 (sh hS rfl) rfl ⟨⟨by decide, by decide⟩, ⟨by decide, by decide⟩⟩ (Nat.le_of_ble_eq_true rfl) (fun r4 s4 p4 => ?_)
  obtain ⟨rfl, hK, hC⟩ := p4
  have hX1 := hK.xs hX
  have hS := hX1.1
  have c1 := hC.1
  refine V_aload_n dX4_howManyWithin_7 rfl ?_
  refine V_getfr dX4_howManyWithin_8 sf_RX4_23 (by decide) (sh hS rfl) (rf hS rfl) ?_
  refine V_aload_n dX4_howManyWithin_11 rfl ?_
  refine V_getfi dX4_howManyWithin_12 sf_RX4_39 rfl (sh hS rfl) ?_
  refine V_val c1 ?_
  refine V_aload_n dX4_howManyWithin_15 rfl ?_
  refine V_callV dX4_howManyWithin_16 (c_allButFirst g _ hS (szW w s) hC.1 h8) sv_RX4_54 (sh hS rfl) rfl ⟨⟨by decide, by decide⟩, ⟨by decide, by decide⟩⟩ (Nat.le_of_ble_eq_true rfl) (fun r16 s16 p16 => ?_)
  obtain ⟨rfl, rfl⟩ := p16
  refine V_val (show _ = ((2 ^ szW w s - 2 : Nat) : Int) by omega) ?_
  refine V_iconst dX4_howManyWithin_19 ?_
  refine V_iload dX4_howManyWithin_20 rfl ?_
  refine V_iconst dX4_howManyWithin_22 ?_
  refine V_callS dX4_howManyWithin_23 (c_countOnward g _ w hX1 s p hp h8 hC (szW w s - 1) (2 ^ szW w s - 2) 0 r 1 (by omega) hp2.1 (by omega) (all_len h8) (by decide) (by omega) (by omega)) ss_RX4_71 rfl (cr0 (by omega)) (Nat.le_of_ble_eq_true rfl) (fun r23 s23 p23 => ?_)
  obtain ⟨rfl, rfl⟩ := p23
  refine V_iret dX4_howManyWithin_26 rfl (Nat.le_refl _) (Nat.le_refl _) ?_
  exact PX_i (by unfold ringsW hdW; rw [← tl_map h8]; exact (ct_map (h := atW w s) (f := 0) (szW w s - 1) _ 0 r at_inj').symm) hK