/-! the ring bench: the table of what it costs to go on -/
set_option maxRecDepth 100000 in
theorem bits_all : ∀ M : Nat, M < 512 → ∀ n : Nat, n < 9 → M.testBit n = true → (∀ j : Nat, j < 9 → (M - 2 ^ n).testBit j = (M.testBit j && decide (j ≠ n))) ∧ 2 ^ n ≤ M ∧ (1 ≤ n → (M - 2 ^ n) % 2 = M % 2) := by decide +kernel
theorem mem_clr {M n N : Nat} (hM : M < 512) (hn : n < 9) (hN : N ≤ 9) (h : M.testBit n = true) : mem (M - 2 ^ n) N = drp (mem M N) n := by
  have hb := (bits_all M hM n hn h).1
  unfold mem drp
  rw [List.filter_filter]
  apply List.filter_congr
  intro j hj
  have hj2 := List.mem_range.mp hj
  rw [hb j (by omega), Bool.and_comm]
theorem clr_nat {M n : Nat} (hM : M < 512) (hn : n < 9) (h : M.testBit n = true) : clr (M : Int) (n : Int) = ((M - 2 ^ n : Nat) : Int) := by
  have hb := (bits_all M hM n hn h).2.1
  unfold clr
  rw [if_pos ((bt_nat M n).mpr h), Int.toNat_natCast]
  have : ((2 ^ n : Nat) : Int) = 2 ^ n := by rw [Int.natCast_pow]; rfl
  omega
theorem minL_top (l : List Int) : minL l ≤ 2147483647 := by
  cases l with
  | nil => exact Int.le_refl _
  | cons a t =>
    show min a (minL t) ≤ _
    have := minL_top t
    omega
/-- the least so far, -5 while there is none -/
def bst : List Int → Int
  | [] => -5
  | a :: t => minL (a :: t)
theorem bst_ne {l : List Int} (h : l ≠ []) : bst l = minL l := by
  cases l with
  | nil => exact absurd rfl h
  | cons a t => rfl
theorem bst_b {l : List Int} (h : ∀ a ∈ l, 0 ≤ a) : -5 ≤ bst l ∧ bst l ≤ 2147483647 := by
  cases l with
  | nil => exact ⟨by decide, by decide⟩
  | cons a t =>
    have h1 := minL_top (a :: t)
    have h2 : 0 ≤ minL (a :: t) := minL_lo (by decide) h
    show -5 ≤ minL (a :: t) ∧ minL (a :: t) ≤ 2147483647
    omega
theorem bst_e {l : List Int} (h : ∀ a ∈ l, 0 ≤ a) (e : bst l = -5) : l = [] := by
  cases l with
  | nil => rfl
  | cons a t =>
    have h2 : 0 ≤ minL (a :: t) := minL_lo (by decide) h
    have e2 : minL (a :: t) = -5 := e
    omega
theorem bst_1 {l : List Int} {v : Int} (h : ∀ a ∈ l, 0 ≤ a) (e : bst l = -5) (hv : v ≤ 2147483647) : bst (l ++ [v]) = v := by
  rw [bst_e h e]
  show min v 2147483647 = v
  omega
theorem bst_2 {l : List Int} {v : Int} (e : ¬ bst l = -5) (hv : v ≤ 2147483647) : bst (l ++ [v]) = min (bst l) v := by
  have hl : l ≠ [] := fun z => e (by rw [z]; rfl)
  rw [bst_ne hl, bst_ne (fun z => hl (List.append_eq_nil_iff.mp z).1), minL_app _ _ hv]
def cpl (w : Nat → Int) (s : Nat) (p : Int) (a b : Nat) : Int := cst w p (atW w s a) (atW w s b)
theorem cpl_ok {w : Nat → Int} (h : WF w) (s : Nat) {p : Int} (hp : 0 ≤ p) : cOK (cpl w s p) := fun a b => cst_ok h hp _ _
/-- the table's value for what is left (M, even) and the last place x -/
def tv (wd : Bool) (w : Nat → Int) (s : Nat) (p : Int) (M x : Nat) : Int := mn wd (cpl w s p) 0 (mem M (szW w s)).length (mem M (szW w s)) x
def TB (wd : Bool) (τ : St) (w : Nat → Int) (s : Nat) (p : Int) (B : Nat) : Prop := ∀ M x : Nat, M < B → M < 2 ^ szW w s → M % 2 = 0 → x < szW w s → ¬ M.testBit x = true → gG τ 68 (M / 2 * 8 + x) = tv wd w s p M x
theorem CH.onG {τ : St} {w : Nat → Int} {s : Nat} {p : Int} (h : CH τ w s p) (h8 : szW w s ≤ 8) {c k : Nat} {v : Int} (hc : c = 57 ∨ c = 58 ∨ c = 68) : CH (setG τ c k v) w s p := by
  obtain ⟨h1, h2, h3⟩ := h
  refine ⟨by rw [gG_ne _ _ (Or.inl (by omega))]; exact h1, fun j hj => by rw [gG_ne _ _ (Or.inl (by omega))]; exact h2 j hj, fun a b ha hb => by rw [gG_ne _ _ (Or.inl (by omega))]; exact h3 a b ha hb⟩
theorem mem_1 {M : Nat} (h : M % 2 = 0) : mem M 1 = [] := by
  have : M.testBit 0 = false := by rw [Nat.testBit_zero, decide_eq_false_iff_not]; omega
  rw [show (1 : Nat) = 0 + 1 from rfl, mem_s, this]
  rfl
theorem mem_0 (n : Nat) : mem 0 n = [] := by
  unfold mem
  rw [List.filter_eq_nil_iff]
  intro a _
  rw [Nat.zero_testBit]
  decide
theorem mem_ne {M n : Nat} (hn : M < 2 ^ n) (h0 : M ≠ 0) : mem M n ≠ [] := by
  intro h
  apply h0
  apply Nat.eq_of_testBit_eq
  intro i
  rw [Nat.zero_testBit]
  by_cases hi : i < n
  · cases hb : M.testBit i with
    | false => rfl
    | true =>
      have := mem_in.mpr ⟨hi, hb⟩
      rw [h] at this
      cases this
  · exact Nat.testBit_lt_two_pow (Nat.lt_of_lt_of_le hn (pw_le (by omega)))
set_option maxHeartbeats 2000000 in
theorem c_leastOnward (g : Gl) (τ : St) (w : Nat → Int) (hX : XS τ w) (s : Nat) (p : Int) (hp : 0 ≤ p ∧ p ≤ 99) (h8 : szW w s ≤ 8) (hC : CH τ w s p) (wd : Bool) (M x : Nat) (hM : M < 2 ^ szW w s) (hM2 : M % 2 = 0) (hx : x < szW w s) (hT : TB wd τ w s p M) :
    Ct g mX4_leastOnward 1 0 0 [vq (some 55), vi (M : Int), vi (x : Int), vi (bI (wd = true))] τ (rP (vi (tv wd w s p M x)) τ) := by
  refine Ct.of (by decide +kernel) (Nat.le_of_ble_eq_true rfl) ?_
  have hS := hX.1
  have rx := sh60 hS (a := x) (by omega)
  have hM5 : M < 512 := Nat.lt_of_lt_of_le hM (Nat.le_trans (pw_le h8) (by decide))
  have hM6 : M < 256 := Nat.lt_of_lt_of_le hM (pw_le h8)
  have hc := cpl_ok hX.2.2 s hp.1
  have hlen : (mem M (szW w s)).length ≤ 8 := by
    have := List.length_filter_le (fun i => M.testBit i) (List.range (szW w s))
    rw [List.length_range] at this
    exact Nat.le_trans this h8
  have loop : ∀ K : Nat, (mem M (szW w s)).length = K + 1 → ∀ (m n : Nat), szW w s - n < m → 1 ≤ n → n ≤ szW w s →
      V g mX4_leastOnward (rmD 1 0 0) (QM g 0 0 (rP (vi (tv wd w s p M x)) τ)) 20 [some (vq (some 55)), some (vi (M : Int)), some (vi (x : Int)), some (vi (bI (wd = true))), some (vi (bst ((mem M n).map fun t => opc wd (cpl w s p x t) (mn wd (cpl w s p) 0 K (drp (mem M (szW w s)) t) t)))), some (vi (n : Int)), none, none, none] [] 0 0 τ := by
    intro K hK m
    induction m with
    | zero => intro n hm; omega
    | succ m ih =>
      intro n hm h1 hn
      have c1 := hC.1
      have bd : ∀ t, t ∈ mem M (szW w s) → 0 ≤ mn wd (cpl w s p) 0 K (drp (mem M (szW w s)) t) t ∧ mn wd (cpl w s p) 0 K (drp (mem M (szW w s)) t) t ≤ 99 * (K + 1) := fun t ht => mn_b hc 0 K _ t (drp_nodup (mem_nodup _ _) t) (by have := drp_len (mem_nodup M (szW w s)) ht; omega)
      have bp : ∀ a ∈ (mem M n).map fun t => opc wd (cpl w s p x t) (mn wd (cpl w s p) 0 K (drp (mem M (szW w s)) t) t), 0 ≤ a := fun a ha => by
        obtain ⟨t, ht, rfl⟩ := List.mem_map.mp ha
        have ht2 := mem_in.mp ht
        have := bd t (mem_in.mpr ⟨by omega, ht2.2⟩)
        have := hc x t
        unfold opc
        split <;> omega
      have bb := bst_b bp
      refine V_iload dX4_leastOnward_20 rfl ?_
      refine V_aload_n dX4_leastOnward_22 rfl ?_
      refine V_getfi dX4_leastOnward_23 sf_RX4_39 rfl (sh hS rfl) ?_
      refine V_icmpge (tgt := 115) dX4_leastOnward_26 (by decide) (by omega) (by omega) (fun br26 => ?_) (fun br26 => ?_)
      · have : n = szW w s := by omega
        subst this
        refine V_iload dX4_leastOnward_115 rfl ?_
        refine V_iret dX4_leastOnward_117 rfl (Nat.le_refl _) (Nat.le_refl _) ?_
        exact rP_i (by rw [bst_ne (fun z => by have z2 := congrArg List.length z; rw [List.length_map, hK] at z2; cases z2)]; unfold tv; rw [hK]; rfl) rfl
      · refine V_iload_n dX4_leastOnward_29 rfl ?_
        refine V_iload dX4_leastOnward_30 rfl ?_
        refine V_callS dX4_leastOnward_32 (c_holds g _ _ _ (by omega) (by omega)) ss_RX4_101 rfl ⟨⟨by decide, by decide⟩, ⟨by decide, by decide⟩⟩ (Nat.le_of_ble_eq_true rfl) (fun r32 s32 p32 => ?_)
        obtain ⟨rfl, rfl⟩ := p32
        refine V_ifeqB (tgt := 109) dX4_leastOnward_35 (by decide) (fun br35 => ?_) (fun br35 => ?_)
        · have hbt : ¬ M.testBit n = true := fun z => br35 ((bt_nat M n).mpr z)
          skip
          refine V_iinc dX4_leastOnward_109 rfl (by decide) rfl ?_
          refine V_goto (tgt := 20) dX4_leastOnward_112 (by decide) ?_
          refine V_mask [true, true, true, true, true, true, false, false, false] ?_
          first
            | (have q := ih (n + 1) (by omega) (by omega) (by omega)
               rw [mem_s, if_neg hbt, List.append_nil] at q
               exact q)
            | (have q := ih (n + 1) (by omega) (by omega) (by omega)
               rw [mem_s, if_pos hbt, List.map_append, List.map_singleton, bst_2 br92 (by unfold opc; split <;> omega)] at q
               rw [show opc wd (cpl w s p x n) (mn wd (cpl w s p) 0 K (drp (mem M (szW w s)) n) n) = max (cpl w s p x n) (mn wd (cpl w s p) 0 K (drp (mem M (szW w s)) n) n) from if_pos br68] at q
               exact q)
            | (have q := ih (n + 1) (by omega) (by omega) (by omega)
               rw [mem_s, if_pos hbt, List.map_append, List.map_singleton, bst_1 bp br92 (by unfold opc; split <;> omega)] at q
               rw [show opc wd (cpl w s p x n) (mn wd (cpl w s p) 0 K (drp (mem M (szW w s)) n) n) = max (cpl w s p x n) (mn wd (cpl w s p) 0 K (drp (mem M (szW w s)) n) n) from if_pos br68] at q
               exact q)
            | (have q := ih (n + 1) (by omega) (by omega) (by omega)
               rw [mem_s, if_pos hbt, List.map_append, List.map_singleton, bst_2 br92 (by unfold opc; split <;> omega)] at q
               rw [show opc wd (cpl w s p x n) (mn wd (cpl w s p) 0 K (drp (mem M (szW w s)) n) n) = cpl w s p x n + (mn wd (cpl w s p) 0 K (drp (mem M (szW w s)) n) n) from if_neg br68] at q
               exact q)
            | (have q := ih (n + 1) (by omega) (by omega) (by omega)
               rw [mem_s, if_pos hbt, List.map_append, List.map_singleton, bst_1 bp br92 (by unfold opc; split <;> omega)] at q
               rw [show opc wd (cpl w s p x n) (mn wd (cpl w s p) 0 K (drp (mem M (szW w s)) n) n) = cpl w s p x n + (mn wd (cpl w s p) 0 K (drp (mem M (szW w s)) n) n) from if_neg br68] at q
               exact q)
        · have hbt := (bt_nat M n).mp br35
          have hnl : n < szW w s := by omega
          have hin : n ∈ mem M (szW w s) := mem_in.mpr ⟨hnl, hbt⟩
          have bdn := bd n hin
          have cn := hc x n
          have hbits := bits_all M hM5 n (by omega) hbt
          have hM' := hbits.2.1
          have hne : ¬ (M - 2 ^ n).testBit n = true := by rw [hbits.1 n (by omega)]; simp
          have hP1 : 1 ≤ 2 ^ n := Nat.two_pow_pos n
          have ht := hT (M - 2 ^ n) n (by omega) (by omega) (by rw [hbits.2.2 h1]; exact hM2) hnl hne
          have hv : tv wd w s p (M - 2 ^ n) n = mn wd (cpl w s p) 0 K (drp (mem M (szW w s)) n) n := by
            unfold tv
            rw [mem_clr hM5 (by omega) (by omega) hbt]
            have := drp_len (mem_nodup M (szW w s)) hin
            rw [show (drp (mem M (szW w s)) n).length = K by omega]
          rw [hv] at ht
          refine V_aload_n dX4_leastOnward_38 rfl ?_
          refine V_getfr dX4_leastOnward_39 sf_RX4_26 (by decide) (sh hS rfl) (rf hS rfl) ?_
          refine V_iload_n dX4_leastOnward_42 rfl ?_
          refine V_iload dX4_leastOnward_43 rfl ?_
          refine V_callS dX4_leastOnward_45 (c_without g _ _ _ (by omega) (by omega) (by omega) (by omega)) ss_RX4_109 rfl ⟨⟨by decide, by decide⟩, ⟨by decide, by decide⟩⟩ (Nat.le_of_ble_eq_true rfl) (fun r45 s45 p45 => ?_)
          obtain ⟨rfl, rfl⟩ := p45
          refine V_val (clr_nat hM5 (by omega) hbt) ?_
          refine V_iload dX4_leastOnward_48 rfl ?_
          refine V_callS dX4_leastOnward_50 (c_cellOf g _ (M - 2 ^ n) n (by omega) (by omega)) ss_RX4_75 rfl ⟨⟨by decide, by decide⟩, ⟨by decide, by decide⟩⟩ (Nat.le_of_ble_eq_true rfl) (fun r50 s50 p50 => ?_)
          obtain ⟨rfl, rfl⟩ := p50
          refine V_iald dX4_leastOnward_53 (sh hS rfl) (by (have := Nat.sub_le M (2 ^ n); omega)) ?_
          refine V_val (show _ = mn wd (cpl w s p) 0 K (drp (mem M (szW w s)) n) n by rw [Int.toNat_natCast]; exact ht) ?_
          refine V_istore dX4_leastOnward_54 (by decide) rfl ?_
          refine V_aload_n dX4_leastOnward_56 rfl ?_
          refine V_getfr dX4_leastOnward_57 sf_RX4_23 (by decide) (sh hS rfl) (rf hS rfl) ?_
          refine V_iload_n dX4_leastOnward_60 rfl ?_
          refine V_aald dX4_leastOnward_61 (sh hS rfl) (by decide) (by omega) (show gP _ 59 (Int.toNat (x : Int)) = some (60 + x) by rw [Int.toNat_natCast]; exact rx.2) ?_
          refine V_iload dX4_leastOnward_62 rfl ?_
          refine V_iald dX4_leastOnward_64 rx.1 (by omega) ?_
          refine V_val (show _ = cpl w s p x n by rw [Int.toNat_natCast]; exact hC.2.2 x n hx hnl) ?_
          refine V_istore dX4_leastOnward_65 (by decide) rfl ?_
          refine V_iload_n dX4_leastOnward_67 rfl ?_
          refine V_ifeqB (tgt := 81) dX4_leastOnward_68 (by decide) (fun br68 => ?_) (fun br68 => ?_)
          · refine V_iload dX4_leastOnward_81 rfl ?_
            refine V_iload dX4_leastOnward_83 rfl ?_
            refine V_iadd dX4_leastOnward_85 ?_
            refine V_istore dX4_leastOnward_86 (by decide) rfl ?_
            refine V_iload dX4_leastOnward_88 rfl ?_
            refine V_bipush dX4_leastOnward_90 (by decide) ?_
            refine V_icmpne (tgt := 100) dX4_leastOnward_92 (by decide) (by omega) (by omega) (fun br92 => ?_) (fun br92 => ?_)
            · refine V_iload dX4_leastOnward_100 rfl ?_
              refine V_iload dX4_leastOnward_102 rfl ?_
              refine V_min dX4_leastOnward_104 sm_RX4_112 (by decide) (by decide) (Nat.le_of_ble_eq_true rfl) (by omega) (by omega) ?_
              refine V_istore dX4_leastOnward_107 (by decide) rfl ?_
              skip
              refine V_iinc dX4_leastOnward_109 rfl (by decide) rfl ?_
              refine V_goto (tgt := 20) dX4_leastOnward_112 (by decide) ?_
              refine V_mask [true, true, true, true, true, true, false, false, false] ?_
              first
                | (have q := ih (n + 1) (by omega) (by omega) (by omega)
                   rw [mem_s, if_neg hbt, List.append_nil] at q
                   exact q)
                | (have q := ih (n + 1) (by omega) (by omega) (by omega)
                   rw [mem_s, if_pos hbt, List.map_append, List.map_singleton, bst_2 br92 (by unfold opc; split <;> omega)] at q
                   rw [show opc wd (cpl w s p x n) (mn wd (cpl w s p) 0 K (drp (mem M (szW w s)) n) n) = max (cpl w s p x n) (mn wd (cpl w s p) 0 K (drp (mem M (szW w s)) n) n) from if_pos br68] at q
                   exact q)
                | (have q := ih (n + 1) (by omega) (by omega) (by omega)
                   rw [mem_s, if_pos hbt, List.map_append, List.map_singleton, bst_1 bp br92 (by unfold opc; split <;> omega)] at q
                   rw [show opc wd (cpl w s p x n) (mn wd (cpl w s p) 0 K (drp (mem M (szW w s)) n) n) = max (cpl w s p x n) (mn wd (cpl w s p) 0 K (drp (mem M (szW w s)) n) n) from if_pos br68] at q
                   exact q)
                | (have q := ih (n + 1) (by omega) (by omega) (by omega)
                   rw [mem_s, if_pos hbt, List.map_append, List.map_singleton, bst_2 br92 (by unfold opc; split <;> omega)] at q
                   rw [show opc wd (cpl w s p x n) (mn wd (cpl w s p) 0 K (drp (mem M (szW w s)) n) n) = cpl w s p x n + (mn wd (cpl w s p) 0 K (drp (mem M (szW w s)) n) n) from if_neg br68] at q
                   exact q)
                | (have q := ih (n + 1) (by omega) (by omega) (by omega)
                   rw [mem_s, if_pos hbt, List.map_append, List.map_singleton, bst_1 bp br92 (by unfold opc; split <;> omega)] at q
                   rw [show opc wd (cpl w s p x n) (mn wd (cpl w s p) 0 K (drp (mem M (szW w s)) n) n) = cpl w s p x n + (mn wd (cpl w s p) 0 K (drp (mem M (szW w s)) n) n) from if_neg br68] at q
                   exact q)
            · refine V_iload dX4_leastOnward_95 rfl ?_
              refine V_goto (tgt := 107) dX4_leastOnward_97 (by decide) ?_
              refine V_istore dX4_leastOnward_107 (by decide) rfl ?_
              skip
              refine V_iinc dX4_leastOnward_109 rfl (by decide) rfl ?_
              refine V_goto (tgt := 20) dX4_leastOnward_112 (by decide) ?_
              refine V_mask [true, true, true, true, true, true, false, false, false] ?_
              first
                | (have q := ih (n + 1) (by omega) (by omega) (by omega)
                   rw [mem_s, if_neg hbt, List.append_nil] at q
                   exact q)
                | (have q := ih (n + 1) (by omega) (by omega) (by omega)
                   rw [mem_s, if_pos hbt, List.map_append, List.map_singleton, bst_2 br92 (by unfold opc; split <;> omega)] at q
                   rw [show opc wd (cpl w s p x n) (mn wd (cpl w s p) 0 K (drp (mem M (szW w s)) n) n) = max (cpl w s p x n) (mn wd (cpl w s p) 0 K (drp (mem M (szW w s)) n) n) from if_pos br68] at q
                   exact q)
                | (have q := ih (n + 1) (by omega) (by omega) (by omega)
                   rw [mem_s, if_pos hbt, List.map_append, List.map_singleton, bst_1 bp br92 (by unfold opc; split <;> omega)] at q
                   rw [show opc wd (cpl w s p x n) (mn wd (cpl w s p) 0 K (drp (mem M (szW w s)) n) n) = max (cpl w s p x n) (mn wd (cpl w s p) 0 K (drp (mem M (szW w s)) n) n) from if_pos br68] at q
                   exact q)
                | (have q := ih (n + 1) (by omega) (by omega) (by omega)
                   rw [mem_s, if_pos hbt, List.map_append, List.map_singleton, bst_2 br92 (by unfold opc; split <;> omega)] at q
                   rw [show opc wd (cpl w s p x n) (mn wd (cpl w s p) 0 K (drp (mem M (szW w s)) n) n) = cpl w s p x n + (mn wd (cpl w s p) 0 K (drp (mem M (szW w s)) n) n) from if_neg br68] at q
                   exact q)
                | (have q := ih (n + 1) (by omega) (by omega) (by omega)
                   rw [mem_s, if_pos hbt, List.map_append, List.map_singleton, bst_1 bp br92 (by unfold opc; split <;> omega)] at q
                   rw [show opc wd (cpl w s p x n) (mn wd (cpl w s p) 0 K (drp (mem M (szW w s)) n) n) = cpl w s p x n + (mn wd (cpl w s p) 0 K (drp (mem M (szW w s)) n) n) from if_neg br68] at q
                   exact q)
          · refine V_iload dX4_leastOnward_71 rfl ?_
            refine V_iload dX4_leastOnward_73 rfl ?_
            refine V_max dX4_leastOnward_75 sm_RX4_62 (by decide) (by decide) (Nat.le_of_ble_eq_true rfl) (by omega) (by omega) ?_
            refine V_goto (tgt := 86) dX4_leastOnward_78 (by decide) ?_
            refine V_istore dX4_leastOnward_86 (by decide) rfl ?_
            refine V_iload dX4_leastOnward_88 rfl ?_
            refine V_bipush dX4_leastOnward_90 (by decide) ?_
            refine V_icmpne (tgt := 100) dX4_leastOnward_92 (by decide) (by omega) (by omega) (fun br92 => ?_) (fun br92 => ?_)
            · refine V_iload dX4_leastOnward_100 rfl ?_
              refine V_iload dX4_leastOnward_102 rfl ?_
              refine V_min dX4_leastOnward_104 sm_RX4_112 (by decide) (by decide) (Nat.le_of_ble_eq_true rfl) (by omega) (by omega) ?_
              refine V_istore dX4_leastOnward_107 (by decide) rfl ?_
              skip
              refine V_iinc dX4_leastOnward_109 rfl (by decide) rfl ?_
              refine V_goto (tgt := 20) dX4_leastOnward_112 (by decide) ?_
              refine V_mask [true, true, true, true, true, true, false, false, false] ?_
              first
                | (have q := ih (n + 1) (by omega) (by omega) (by omega)
                   rw [mem_s, if_neg hbt, List.append_nil] at q
                   exact q)
                | (have q := ih (n + 1) (by omega) (by omega) (by omega)
                   rw [mem_s, if_pos hbt, List.map_append, List.map_singleton, bst_2 br92 (by unfold opc; split <;> omega)] at q
                   rw [show opc wd (cpl w s p x n) (mn wd (cpl w s p) 0 K (drp (mem M (szW w s)) n) n) = max (cpl w s p x n) (mn wd (cpl w s p) 0 K (drp (mem M (szW w s)) n) n) from if_pos br68] at q
                   exact q)
                | (have q := ih (n + 1) (by omega) (by omega) (by omega)
                   rw [mem_s, if_pos hbt, List.map_append, List.map_singleton, bst_1 bp br92 (by unfold opc; split <;> omega)] at q
                   rw [show opc wd (cpl w s p x n) (mn wd (cpl w s p) 0 K (drp (mem M (szW w s)) n) n) = max (cpl w s p x n) (mn wd (cpl w s p) 0 K (drp (mem M (szW w s)) n) n) from if_pos br68] at q
                   exact q)
                | (have q := ih (n + 1) (by omega) (by omega) (by omega)
                   rw [mem_s, if_pos hbt, List.map_append, List.map_singleton, bst_2 br92 (by unfold opc; split <;> omega)] at q
                   rw [show opc wd (cpl w s p x n) (mn wd (cpl w s p) 0 K (drp (mem M (szW w s)) n) n) = cpl w s p x n + (mn wd (cpl w s p) 0 K (drp (mem M (szW w s)) n) n) from if_neg br68] at q
                   exact q)
                | (have q := ih (n + 1) (by omega) (by omega) (by omega)
                   rw [mem_s, if_pos hbt, List.map_append, List.map_singleton, bst_1 bp br92 (by unfold opc; split <;> omega)] at q
                   rw [show opc wd (cpl w s p x n) (mn wd (cpl w s p) 0 K (drp (mem M (szW w s)) n) n) = cpl w s p x n + (mn wd (cpl w s p) 0 K (drp (mem M (szW w s)) n) n) from if_neg br68] at q
                   exact q)
            · refine V_iload dX4_leastOnward_95 rfl ?_
              refine V_goto (tgt := 107) dX4_leastOnward_97 (by decide) ?_
              refine V_istore dX4_leastOnward_107 (by decide) rfl ?_
              skip
              refine V_iinc dX4_leastOnward_109 rfl (by decide) rfl ?_
              refine V_goto (tgt := 20) dX4_leastOnward_112 (by decide) ?_
              refine V_mask [true, true, true, true, true, true, false, false, false] ?_
              first
                | (have q := ih (n + 1) (by omega) (by omega) (by omega)
                   rw [mem_s, if_neg hbt, List.append_nil] at q
                   exact q)
                | (have q := ih (n + 1) (by omega) (by omega) (by omega)
                   rw [mem_s, if_pos hbt, List.map_append, List.map_singleton, bst_2 br92 (by unfold opc; split <;> omega)] at q
                   rw [show opc wd (cpl w s p x n) (mn wd (cpl w s p) 0 K (drp (mem M (szW w s)) n) n) = max (cpl w s p x n) (mn wd (cpl w s p) 0 K (drp (mem M (szW w s)) n) n) from if_pos br68] at q
                   exact q)
                | (have q := ih (n + 1) (by omega) (by omega) (by omega)
                   rw [mem_s, if_pos hbt, List.map_append, List.map_singleton, bst_1 bp br92 (by unfold opc; split <;> omega)] at q
                   rw [show opc wd (cpl w s p x n) (mn wd (cpl w s p) 0 K (drp (mem M (szW w s)) n) n) = max (cpl w s p x n) (mn wd (cpl w s p) 0 K (drp (mem M (szW w s)) n) n) from if_pos br68] at q
                   exact q)
                | (have q := ih (n + 1) (by omega) (by omega) (by omega)
                   rw [mem_s, if_pos hbt, List.map_append, List.map_singleton, bst_2 br92 (by unfold opc; split <;> omega)] at q
                   rw [show opc wd (cpl w s p x n) (mn wd (cpl w s p) 0 K (drp (mem M (szW w s)) n) n) = cpl w s p x n + (mn wd (cpl w s p) 0 K (drp (mem M (szW w s)) n) n) from if_neg br68] at q
                   exact q)
                | (have q := ih (n + 1) (by omega) (by omega) (by omega)
                   rw [mem_s, if_pos hbt, List.map_append, List.map_singleton, bst_1 bp br92 (by unfold opc; split <;> omega)] at q
                   rw [show opc wd (cpl w s p x n) (mn wd (cpl w s p) 0 K (drp (mem M (szW w s)) n) n) = cpl w s p x n + (mn wd (cpl w s p) 0 K (drp (mem M (szW w s)) n) n) from if_neg br68] at q
                   exact q)
  refine V_iload_n dX4_leastOnward_0 rfl ?_
  refine V_ifne (tgt := 13) dX4_leastOnward_1 (by decide) (by omega) (fun br1 => ?_) (fun br1 => ?_)
  · refine V_bipush dX4_leastOnward_13 (by decide) ?_
    refine V_istore dX4_leastOnward_15 (by decide) rfl ?_
    refine V_iconst dX4_leastOnward_17 ?_
    refine V_istore dX4_leastOnward_18 (by decide) rfl ?_
    refine V_mask [true, true, true, true, true, true, false, false, false] ?_
    have hM0 : M ≠ 0 := by omega
    have hne := mem_ne hM hM0
    have hpos := List.length_pos_iff.mpr hne
    have q := loop ((mem M (szW w s)).length - 1) (by omega) _ 1 (Nat.lt_succ_self _) (Nat.le_refl _) (by omega)
    rw [mem_1 hM2] at q
    exact q
  · have hM0 : M = 0 := by omega
    subst hM0
    refine V_aload_n dX4_leastOnward_4 rfl ?_
    refine V_getfr dX4_leastOnward_5 sf_RX4_23 (by decide) (sh hS rfl) (rf hS rfl) ?_
    refine V_iload_n dX4_leastOnward_8 rfl ?_
    refine V_aald dX4_leastOnward_9 (sh hS rfl) (by decide) (by omega) (show gP _ 59 (Int.toNat (x : Int)) = some (60 + x) by rw [Int.toNat_natCast]; exact rx.2) ?_
    refine V_iconst dX4_leastOnward_10 ?_
    refine V_iald dX4_leastOnward_11 rx.1 (by omega) ?_
    refine V_iret dX4_leastOnward_12 rfl (Nat.le_refl _) (Nat.le_refl _) ?_
    exact rP_i (by unfold tv; rw [mem_0]; exact hC.2.2 x 0 hx (by omega)) rfl
set_option maxHeartbeats 2000000 in
theorem c_weigh (g : Gl) (σ : St) (w : Nat → Int) (hX : XS σ w) (hz : Z0 σ) (s : Nat) (p : Int) (hp : 0 ≤ p ∧ p ≤ 99) (h8 : szW w s ≤ 8) (h1 : 1 ≤ szW w s) (hC : CH σ w s p) (wd : Bool) :
    Ct g mX4_weigh 2 0 0 [vq (some 55), vi (bI (wd = true))] σ (fun r τ => r = none ∧ XK σ τ ∧ CH τ w s p ∧ TB wd τ w s p (2 ^ szW w s)) := by
  refine Ct.of (by decide +kernel) (Nat.le_of_ble_eq_true rfl) ?_
  have hS := hX.1
  have hP9 : 2 ^ szW w s ≤ 2 ^ 8 := pw_le h8
  have hP1 : 2 ^ 1 ≤ 2 ^ szW w s := pw_le h1
  obtain ⟨q, hq⟩ : ∃ q, 2 ^ szW w s = 2 * q := ⟨2 ^ (szW w s - 1), by rw [← Nat.pow_succ']; congr 1; omega⟩
  have outer : ∀ (m L : Nat) (τ : St), 2 ^ szW w s - L < m → L % 2 = 0 → L ≤ 2 ^ szW w s → XK σ τ → CH τ w s p → TB wd τ w s p L →
      V g mX4_weigh (rmD 2 0 0) (QM g 0 0 (fun r τ => r = none ∧ XK σ τ ∧ CH τ w s p ∧ TB wd τ w s p (2 ^ szW w s))) 7 [some (vq (some 55)), some (vi (bI (wd = true))), some (vi ((2 ^ szW w s : Nat) - 2 : Int)), some (vi (L : Int)), none] [] 0 0 τ := by
    intro m
    induction m with
    | zero => intro L τ hm; omega
    | succ m ih =>
      intro L τ hm hL2 hL hK hC1 hT
      have hX1 := hK.xs hX
      have hS := hX1.1
      refine V_iload_n dX4_weigh_7 rfl ?_
      refine V_iload_n dX4_weigh_8 rfl ?_
      refine V_icmpgt (tgt := 64) dX4_weigh_9 (by decide) (by omega) (by omega) (fun br9 => ?_) (fun br9 => ?_)
      · have : L = 2 ^ szW w s := by omega
        subst this
        refine V_vret dX4_weigh_64 rfl (Nat.le_refl _) (Nat.le_refl _) ?_
        exact ⟨rfl, hK, hC1, hT⟩
      · refine V_iconst dX4_weigh_12 ?_
        refine V_istore dX4_weigh_13 (by decide) rfl ?_
        refine V_mask [true, true, true, true, true] ?_
        have hLl : L < 2 ^ szW w s := by omega
        have inner : ∀ (m2 y : Nat) (τ2 : St), szW w s - y < m2 → y ≤ szW w s → XK σ τ2 → CH τ2 w s p → TB wd τ2 w s p L → (∀ x, x < y → ¬ L.testBit x = true → gG τ2 68 (L / 2 * 8 + x) = tv wd w s p L x) →
            V g mX4_weigh (rmD 2 0 0) (QM g 0 0 (fun r τ => r = none ∧ XK σ τ ∧ CH τ w s p ∧ TB wd τ w s p (2 ^ szW w s))) 15 [some (vq (some 55)), some (vi (bI (wd = true))), some (vi ((2 ^ szW w s : Nat) - 2 : Int)), some (vi (L : Int)), some (vi (y : Int))] [] 0 0 τ2 := by
          intro m2
          induction m2 with
          | zero => intro y τ2 hm2; omega
          | succ m2 ih2 =>
            intro y τ2 hm2 hy hK2 hC2 hT2 hR2
            have hX2 := hK2.xs hX
            have hS := hX2.1
            have c1 := hC2.1
            refine V_iload dX4_weigh_15 rfl ?_
            refine V_aload_n dX4_weigh_17 rfl ?_
            refine V_getfi dX4_weigh_18 sf_RX4_39 rfl (sh hS rfl) ?_
            refine V_icmpge (tgt := 58) dX4_weigh_21 (by decide) (by omega) (by omega) (fun br21 => ?_) (fun br21 => ?_)
            · have : y = szW w s := by omega
              subst this
              refine V_iinc dX4_weigh_58 rfl (by decide) rfl ?_
              refine V_goto (tgt := 7) dX4_weigh_61 (by decide) ?_
              refine V_mask [true, true, true, true, false] ?_
              refine ih (L + 2) _ (by omega) (by omega) (by omega) hK2 hC2 (fun M x h1 h2 h3 h4 h5 => ?_)
              by_cases e : M = L
              · subst e; exact hR2 x h4 h5
              · exact hT2 M x (by omega) h2 h3 h4 h5
            · refine V_iload_n dX4_weigh_24 rfl ?_
              refine V_iload dX4_weigh_25 rfl ?_
              refine V_callS dX4_weigh_27 (c_holds g _ _ _ (by omega) (by omega)) ss_RX4_101 rfl ⟨⟨by decide, by decide⟩, ⟨by decide, by decide⟩⟩ (Nat.le_of_ble_eq_true rfl) (fun r27 s27 p27 => ?_)
              obtain ⟨rfl, rfl⟩ := p27
              refine V_ifneB (tgt := 52) dX4_weigh_30 (by decide) (fun br30 => ?_) (fun br30 => ?_)
              · refine V_iinc dX4_weigh_52 rfl (by decide) rfl ?_
                refine V_goto (tgt := 15) dX4_weigh_55 (by decide) ?_
                refine V_mask [true, true, true, true, true] ?_
                first
                  | (have hbt := (bt_nat L y).mp br30
                     exact ih2 (y + 1) _ (by omega) (by omega) hK2 hC2 hT2 (fun x hx hb => by
                       by_cases e : x = y
                       · subst e; exact absurd hbt hb
                       · exact hR2 x (by omega) hb))
                  | (refine ih2 (y + 1) _ (by omega) (by omega) (hK2.onG (by decide) (by decide)) (hC2.onG h8 (Or.inr (Or.inr rfl))) (fun M x h1 h2 h3 h4 h5 => ?_) (fun x hx hb => ?_)
                     · rw [gG_ne _ _ (Or.inr (by rw [Int.toNat_natCast]; omega))]
                       exact hT2 M x h1 h2 h3 h4 h5
                     · rw [Int.toNat_natCast]
                       by_cases e : x = y
                       · subst e
                         rw [gG_is]
                       · rw [gG_ne _ _ (Or.inr (by omega))]
                         exact hR2 x (by omega) hb)
              · refine V_aload_n dX4_weigh_33 rfl ?_
                refine V_getfr dX4_weigh_34 sf_RX4_26 (by decide) (sh hS rfl) (rf hS rfl) ?_
                refine V_iload_n dX4_weigh_37 rfl ?_
                refine V_iload dX4_weigh_38 rfl ?_
                refine V_callS dX4_weigh_40 (c_cellOf g _ L y (by omega) (by omega)) ss_RX4_75 rfl ⟨⟨by decide, by decide⟩, ⟨by decide, by decide⟩⟩ (Nat.le_of_ble_eq_true rfl) (fun r40 s40 p40 => ?_)
                obtain ⟨rfl, rfl⟩ := p40
                refine V_aload_n dX4_weigh_43 rfl ?_
                refine V_iload_n dX4_weigh_44 rfl ?_
                refine V_iload dX4_weigh_45 rfl ?_
                refine V_iload_n dX4_weigh_47 rfl ?_
                refine V_callV dX4_weigh_48 (c_leastOnward g _ w hX2 s p hp h8 hC2 wd L y hLl hL2 (by omega) hT2) sv_RX4_105 (sh hS rfl) rfl ⟨⟨by decide, by decide⟩, ⟨by decide, by decide⟩⟩ (Nat.le_of_ble_eq_true rfl) (fun r48 s48 p48 => ?_)
                obtain ⟨rfl, rfl⟩ := p48
                refine V_iast dX4_weigh_51 (sh hS rfl) (by omega) ?_
                refine V_iinc dX4_weigh_52 rfl (by decide) rfl ?_
                refine V_goto (tgt := 15) dX4_weigh_55 (by decide) ?_
                refine V_mask [true, true, true, true, true] ?_
                first
                  | (have hbt := (bt_nat L y).mp br30
                     exact ih2 (y + 1) _ (by omega) (by omega) hK2 hC2 hT2 (fun x hx hb => by
                       by_cases e : x = y
                       · subst e; exact absurd hbt hb
                       · exact hR2 x (by omega) hb))
                  | (refine ih2 (y + 1) _ (by omega) (by omega) (hK2.onG (by decide) (by decide)) (hC2.onG h8 (Or.inr (Or.inr rfl))) (fun M x h1 h2 h3 h4 h5 => ?_) (fun x hx hb => ?_)
                     · rw [gG_ne _ _ (Or.inr (by rw [Int.toNat_natCast]; omega))]
                       exact hT2 M x h1 h2 h3 h4 h5
                     · rw [Int.toNat_natCast]
                       by_cases e : x = y
                       · subst e
                         rw [gG_is]
                       · rw [gG_ne _ _ (Or.inr (by omega))]
                         exact hR2 x (by omega) hb)
        exact inner _ 0 τ (Nat.lt_succ_self _) (Nat.zero_le _) hK hC1 hT (fun x h => absurd h (Nat.not_lt_zero _))
  refine V_aload_n dX4_weigh_0 rfl ?_
  refine V_callV dX4_weigh_1 (c_allButFirst g _ hS (szW w s) hC.1 h8) sv_RX4_54 (sh hS rfl) rfl ⟨⟨by decide, by decide⟩, ⟨by decide, by decide⟩⟩ (Nat.le_of_ble_eq_true rfl) (fun r1 s1 p1 => ?_)
  obtain ⟨rfl, rfl⟩ := p1
  refine V_istore_n dX4_weigh_4 (by decide) rfl ?_
  refine V_iconst dX4_weigh_5 ?_
  refine V_istore_n dX4_weigh_6 (by decide) rfl ?_
  refine V_mask [true, true, true, true, false] ?_
  exact outer _ 0 σ (Nat.lt_succ_self _) rfl (Nat.zero_le _) (XK.rf hz) hC (fun M x h => absurd h (Nat.not_lt_zero _))