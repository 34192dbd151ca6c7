/-- the wet heights; how many would be with one hoop more; the driest size -/
def wetF (P : Nat → Int) (t : Int) : Nat → Int
  | 0 => 0
  | n + 1 => if min (P n) 99 < t then wetF P t n + ((2 ^ n : Nat) : Int) else wetF P t n
theorem wetF_b (P : Nat → Int) (t : Int) : ∀ n : Nat, 0 ≤ wetF P t n ∧ wetF P t n < ((2 ^ n : Nat) : Int)
  | 0 => ⟨Int.le_refl _, (by decide : (0 : Int) < ((2 ^ 0 : Nat) : Int))⟩
  | n + 1 => by
    have a := wetF_b P t n
    have e : (2 ^ (n + 1) : Nat) = 2 ^ n * 2 := Nat.pow_succ 2 n
    unfold wetF
    split <;> omega
theorem ins_top {s : Int} {n : Nat} (h0 : 0 ≤ s) (h1 : s < ((2 ^ n : Nat) : Int)) : ins s (n : Int) = s + ((2 ^ n : Nat) : Int) := by
  have e : ¬ bt s (n : Int) := by
    intro h
    obtain ⟨m, rfl⟩ : ∃ m : Nat, s = (m : Int) := ⟨s.toNat, by omega⟩
    have := (bt_nat m n).mp h
    rw [Nat.testBit_lt_two_pow (by omega)] at this
    cases this
  unfold ins
  rw [if_neg e, Int.toNat_natCast, Int.natCast_pow]
  rfl
theorem wetF_cong {P Q : Nat → Int} {t : Int} : ∀ n : Nat, (∀ j, j < n → P j = Q j) → wetF P t n = wetF Q t n
  | 0, _ => rfl
  | n + 1, h => by
    unfold wetF
    rw [wetF_cong n (fun j hj => h j (by omega)), h n (by omega)]
theorem c_wetBelow (g : Gl) (σ : St) (hS : Std σ) (P : Nat → Int) (hP : ∀ h, h < 9 → gG σ 71 h = P h ∧ 0 ≤ P h ∧ P h ≤ 10000) (t : Int) (ht : inR t) : Ct g mX1_wetBelow 2 0 0 [vq (some 69), vi t] σ (rP (vi (wetF P t 9)) σ) := by
  refine Ct.of (by decide +kernel) (Nat.le_of_ble_eq_true rfl) ?_
  have loop : ∀ (m n : Nat), 9 - n < m → n ≤ 9 → V g mX1_wetBelow (rmD 2 0 0) (QM g 0 0 (rP (vi (wetF P t 9)) σ)) 4 [some (vq (some 69)), some (vi t), some (vi (wetF P t n)), some (vi (n : Int))] [] 0 0 σ := by
    intro m
    induction m with
    | zero => intro n hm; omega
    | succ m ih =>
      intro n hm hn
      have wb := wetF_b P t n
      have wp : 2 ^ n ≤ 2 ^ 9 := pw_le hn
      refine V_iload_n dX1_wetBelow_4 rfl ?_
      refine V_bipush dX1_wetBelow_5 (by decide) ?_
      refine V_icmpge (tgt := 35) dX1_wetBelow_7 (by decide) (by omega) (by omega) (fun br7 => ?_) (fun br7 => ?_)
      · have e : n = 9 := by omega
        subst e
        refine V_iload_n dX1_wetBelow_35 rfl ?_
        refine V_iret dX1_wetBelow_36 rfl (Nat.le_refl _) (Nat.le_refl _) ?_
        exact rP_i rfl rfl
      · have hp := hP n (by omega)
        refine V_aload_n dX1_wetBelow_10 rfl ?_
        refine V_getfr dX1_wetBelow_11 sf_RX1_15 (by decide) (sh hS rfl) (rf hS rfl) ?_
        refine V_iload_n dX1_wetBelow_14 rfl ?_
        refine V_iald dX1_wetBelow_15 (sh hS rfl) (by omega) ?_
        refine V_val (show _ = P n by rw [Int.toNat_natCast]; exact hp.1) ?_
        refine V_callS dX1_wetBelow_16 (c_capped g _ (P n) (by omega)) ss_RX1_87 rfl ⟨⟨by decide, by decide⟩, ⟨by decide, by decide⟩⟩ (Nat.le_of_ble_eq_true rfl) (fun r16 s16 p16 => ?_)
        obtain ⟨rfl, rfl⟩ := p16
        refine V_iload_n dX1_wetBelow_19 rfl ?_
        refine V_icmpge (tgt := 29) dX1_wetBelow_20 (by decide) (by omega) (by omega) (fun br20 => ?_) (fun br20 => ?_)
        · have e : wetF P t (n + 1) = wetF P t n := if_neg (by omega)
          refine V_iinc dX1_wetBelow_29 rfl (by decide) rfl ?_
          refine V_goto (tgt := 4) dX1_wetBelow_32 (by decide) ?_
          refine V_mask [true, true, true, true] ?_
          first | exact ih (n + 1) (by omega) (by omega) | (rw [← e]; exact ih (n + 1) (by omega) (by omega))
        · have br20' : min (P n) 99 < t := by omega
          refine V_iload_n dX1_wetBelow_23 rfl ?_
          refine V_iconst dX1_wetBelow_24 ?_
          refine V_iload_n dX1_wetBelow_25 rfl ?_
          refine V_ishl dX1_wetBelow_26 (by omega) ?_
          refine V_ior dX1_wetBelow_27 ?_
          refine V_val (show _ = wetF P t (n + 1) by
            rw [ins_of (by omega) (by omega) (by omega) (by omega), ins_top wb.1 wb.2]
            exact (if_pos br20').symm) ?_
          refine V_istore_n dX1_wetBelow_28 (by decide) rfl ?_
          refine V_iinc dX1_wetBelow_29 rfl (by decide) rfl ?_
          refine V_goto (tgt := 4) dX1_wetBelow_32 (by decide) ?_
          refine V_mask [true, true, true, true] ?_
          first | exact ih (n + 1) (by omega) (by omega) | (rw [← e]; exact ih (n + 1) (by omega) (by omega))
  refine V_iconst dX1_wetBelow_0 ?_
  refine V_istore_n dX1_wetBelow_1 (by decide) rfl ?_
  refine V_iconst dX1_wetBelow_2 ?_
  refine V_istore_n dX1_wetBelow_3 (by decide) rfl ?_
  refine V_mask [true, true, true, true] ?_
  exact loop _ 0 (Nat.lt_succ_self _) (Nat.zero_le _)
def hmF (P : Nat → Int) (rest pr t : Int) : Nat → Int
  | 0 => 0
  | n + 1 => hmF P rest pr t n + if min (P n + prF rest pr n) 99 < t then 1 else 0
theorem hmF_b (P : Nat → Int) (rest pr t : Int) : ∀ n : Nat, 0 ≤ hmF P rest pr t n ∧ hmF P rest pr t n ≤ n
  | 0 => ⟨Int.le_refl _, Int.le_refl _⟩
  | n + 1 => by
    have a := hmF_b P rest pr t n
    unfold hmF
    split <;> omega
theorem c_howManyWetWith (g : Gl) (σ : St) (hS : Std σ) (P : Nat → Int) (hP : ∀ h, h < 9 → gG σ 71 h = P h ∧ 0 ≤ P h ∧ P h ≤ 10000) (r p t : Int) (hr : 0 ≤ r ∧ r ≤ 8) (hp : 0 ≤ p ∧ p ≤ 1003) (ht : inR t) : Ct g mX1_howManyWetWith 2 0 0 [vq (some 69), vi r, vi p, vi t] σ (rP (vi (hmF P r p t 9)) σ) := by
  refine Ct.of (by decide +kernel) (Nat.le_of_ble_eq_true rfl) ?_
  have loop : ∀ (m n : Nat), 9 - n < m → n ≤ 9 → V g mX1_howManyWetWith (rmD 2 0 0) (QM g 0 0 (rP (vi (hmF P r p t 9)) σ)) 6 [some (vq (some 69)), some (vi r), some (vi p), some (vi t), some (vi (hmF P r p t n)), some (vi (n : Int))] [] 0 0 σ := by
    intro m
    induction m with
    | zero => intro n hm; omega
    | succ m ih =>
      intro n hm hn
      have hb := hmF_b P r p t n
      refine V_iload dX1_howManyWetWith_6 rfl ?_
      refine V_bipush dX1_howManyWetWith_8 (by decide) ?_
      refine V_icmpge (tgt := 44) dX1_howManyWetWith_10 (by decide) (by omega) (by omega) (fun br10 => ?_) (fun br10 => ?_)
      · have e : n = 9 := by omega
        subst e
        refine V_iload dX1_howManyWetWith_44 rfl ?_
        refine V_iret dX1_howManyWetWith_46 rfl (Nat.le_refl _) (Nat.le_refl _) ?_
        exact rP_i rfl rfl
      · have hq := hP n (by omega)
        have pb := prF_b (r := r) (p := p) (h := (n : Int)) hr (by omega) hp.1
        refine V_aload_n dX1_howManyWetWith_13 rfl ?_
        refine V_getfr dX1_howManyWetWith_14 sf_RX1_15 (by decide) (sh hS rfl) (rf hS rfl) ?_
        refine V_iload dX1_howManyWetWith_17 rfl ?_
        refine V_iald dX1_howManyWetWith_19 (sh hS rfl) (by omega) ?_
        refine V_val (show _ = P n by rw [Int.toNat_natCast]; exact hq.1) ?_
        refine V_iload_n dX1_howManyWetWith_20 rfl ?_
        refine V_iload_n dX1_howManyWetWith_21 rfl ?_
        refine V_iload dX1_howManyWetWith_22 rfl ?_
        refine V_callS dX1_howManyWetWith_24 (c_pressFrom g _ r p n hr (by omega) hp) ss_RX1_76 rfl ⟨⟨by decide, by decide⟩, ⟨by decide, by decide⟩⟩ (Nat.le_of_ble_eq_true rfl) (fun r24 s24 p24 => ?_)
        obtain ⟨rfl, rfl⟩ := p24
        refine V_iadd dX1_howManyWetWith_27 ?_
        refine V_callS dX1_howManyWetWith_28 (c_capped g _ (P n + prF r p n) (by omega)) ss_RX1_87 rfl ⟨⟨by decide, by decide⟩, ⟨by decide, by decide⟩⟩ (Nat.le_of_ble_eq_true rfl) (fun r28 s28 p28 => ?_)
        obtain ⟨rfl, rfl⟩ := p28
        refine V_iload_n dX1_howManyWetWith_31 rfl ?_
        refine V_icmpge (tgt := 38) dX1_howManyWetWith_32 (by decide) (by omega) (by omega) (fun br32 => ?_) (fun br32 => ?_)
        · have e : hmF P r p t (n + 1) = hmF P r p t n := by
            show hmF P r p t n + (if _ then _ else _) = _
            rw [if_neg (by omega)]; omega
          refine V_iinc dX1_howManyWetWith_38 rfl (by decide) rfl ?_
          refine V_goto (tgt := 6) dX1_howManyWetWith_41 (by decide) ?_
          refine V_mask [true, true, true, true, true, true] ?_
          rw [← e]
          exact ih (n + 1) (by omega) (by omega)
        · have e : hmF P r p t (n + 1) = hmF P r p t n + 1 := by
            show hmF P r p t n + (if _ then _ else _) = _
            rw [if_pos (by omega)]
          refine V_iinc dX1_howManyWetWith_35 rfl (by decide) rfl ?_
          refine V_iinc dX1_howManyWetWith_38 rfl (by decide) rfl ?_
          refine V_goto (tgt := 6) dX1_howManyWetWith_41 (by decide) ?_
          refine V_mask [true, true, true, true, true, true] ?_
          rw [← e]
          exact ih (n + 1) (by omega) (by omega)
  refine V_iconst dX1_howManyWetWith_0 ?_
  refine V_istore dX1_howManyWetWith_1 (by decide) rfl ?_
  refine V_iconst dX1_howManyWetWith_3 ?_
  refine V_istore dX1_howManyWetWith_4 (by decide) rfl ?_
  refine V_mask [true, true, true, true, true, true] ?_
  exact loop _ 0 (Nat.lt_succ_self _) (Nat.zero_le _)
/-- of the sizes to n: the best, and how few heights it leaves wet -/
def dryS (w : Nat → Int) (P : Nat → Int) (t f : Int) (n : Nat) : Int := if rst w ((n : Int) + 1) (far w 0 (dep w) (nH w)) = -5 then f else hmF P (rst w ((n : Int) + 1) (far w 0 (dep w) (nH w))) (grp w (rst w ((n : Int) + 1) (far w 0 (dep w) (nH w))) ((n : Int) + 1)) t 9
def dryF (w : Nat → Int) (P : Nat → Int) (t : Int) : Nat → Int × Int
  | 0 => (-5, pc10 (wetF P t 9))
  | n + 1 => if dryS w P t (dryF w P t n).2 n < (dryF w P t n).2 then ((n : Int) + 1, dryS w P t (dryF w P t n).2 n) else dryF w P t n
theorem pcn_b : ∀ (s : Int) (n : Nat), 0 ≤ pcn s n ∧ pcn s n ≤ n := by
  intro s n
  induction n with
  | zero => exact ⟨Int.le_refl _, Int.le_refl _⟩
  | succ n ih => unfold pcn; split <;> omega
theorem dryF_b (w : Nat → Int) (P : Nat → Int) (t : Int) : ∀ n : Nat, 0 ≤ (dryF w P t n).2 ∧ (dryF w P t n).2 ≤ 10
  | 0 => pcn_b _ 10
  | n + 1 => by
    have a := dryF_b w P t n
    have b : 0 ≤ dryS w P t (dryF w P t n).2 n := by
      unfold dryS
      split
      · exact a.1
      · exact (hmF_b _ _ _ _ 9).1
    unfold dryF
    split
    · show 0 ≤ dryS w P t (dryF w P t n).2 n ∧ dryS w P t (dryF w P t n).2 n ≤ 10
      omega
    · exact a
theorem c_driestSize (g : Gl) (σ : St) (w : Nat → Int) (hX : XS σ w) (hD : DR σ w) (P : Nat → Int) (hP : ∀ h, h < 9 → gG σ 71 h = P h ∧ 0 ≤ P h ∧ P h ≤ 10000) (most : Nat) (hm : most ≤ 600) (t : Int) (ht : inR t) : Ct g mX1_driestSize 3 0 0 [vq (some 69), vq (some 9), vi (most : Int), vi t] σ (rP (vi (dryF w P t most).1) σ) := by
  refine Ct.of (by decide +kernel) (Nat.le_of_ble_eq_true rfl) ?_
  have hS := hX.1
  have n5 := hX.n5
  have hnH : nH w = (w 5).toNat := rfl
  have loop : ∀ (m n : Nat), most - n < m → n ≤ most → V g mX1_driestSize (rmD 3 0 0) (QM g 0 0 (rP (vi (dryF w P t most).1) σ)) 17 [some (vq (some 69)), some (vq (some 9)), some (vi (most : Int)), some (vi t), some (vi (dryF w P t n).1), some (vi (dryF w P t n).2), some (vi ((n : Int) + 1)), none, none] [] 0 0 σ := by
    intro m
    induction m with
    | zero => intro n hm; omega
    | succ m ih =>
      intro n hm2 hn
      have fb := dryF_b w P t n
      have rb := rst_b w ((n : Int) + 1) (far w 0 (dep w) (nH w))
      have fin : ∀ x : Int, x = dryS w P t (dryF w P t n).2 n → n < most → V g mX1_driestSize (rmD 3 0 0) (QM g 0 0 (rP (vi (dryF w P t most).1) σ)) 64 [some (vq (some 69)), some (vq (some 9)), some (vi (most : Int)), some (vi t), some (vi (dryF w P t n).1), some (vi (dryF w P t n).2), some (vi ((n : Int) + 1)), none, none] [vi x] 0 0 σ := by
        intro x hx hlt
        have xb : 0 ≤ x ∧ x ≤ 10 := by
          subst hx
          unfold dryS
          split
          · exact fb
          · have := hmF_b P (rst w ((n : Int) + 1) (far w 0 (dep w) (nH w))) (grp w (rst w ((n : Int) + 1) (far w 0 (dep w) (nH w))) ((n : Int) + 1)) t 9
            omega
        refine V_istore dX1_driestSize_64 (by decide) rfl ?_
        refine V_iload dX1_driestSize_66 rfl ?_
        refine V_iload dX1_driestSize_68 rfl ?_
        refine V_icmpge (tgt := 81) dX1_driestSize_70 (by decide) (by omega) (by omega) (fun br70 => ?_) (fun br70 => ?_)
        · have e : dryF w P t (n + 1) = dryF w P t n := by
            subst hx
            exact if_neg (by omega)
          refine V_iinc dX1_driestSize_81 rfl (by decide) rfl ?_
          refine V_goto (tgt := 17) dX1_driestSize_84 (by decide) ?_
          refine V_mask [true, true, true, true, true, true, true, false, false] ?_
          have := ih (n + 1) (by omega) (by omega)
          rw [e] at this
          exact this
        · have e : dryF w P t (n + 1) = ((n : Int) + 1, x) := by
            subst hx
            exact if_pos (by omega)
          refine V_iload dX1_driestSize_73 rfl ?_
          refine V_istore dX1_driestSize_75 (by decide) rfl ?_
          refine V_iload dX1_driestSize_77 rfl ?_
          refine V_istore dX1_driestSize_79 (by decide) rfl ?_
          refine V_iinc dX1_driestSize_81 rfl (by decide) rfl ?_
          refine V_goto (tgt := 17) dX1_driestSize_84 (by decide) ?_
          refine V_mask [true, true, true, true, true, true, true, false, false] ?_
          have := ih (n + 1) (by omega) (by omega)
          rw [e] at this
          exact this
      refine V_iload dX1_driestSize_17 rfl ?_
      refine V_iload_n dX1_driestSize_19 rfl ?_
      refine V_icmpgt (tgt := 87) dX1_driestSize_20 (by decide) (by omega) (by omega) (fun br20 => ?_) (fun br20 => ?_)
      · have e : n = most := by omega
        subst e
        refine V_iload dX1_driestSize_87 rfl ?_
        refine V_iret dX1_driestSize_89 rfl (Nat.le_refl _) (Nat.le_refl _) ?_
        exact rP_i rfl rfl
      · refine V_aload_n dX1_driestSize_23 rfl ?_
        refine V_aload_n dX1_driestSize_24 rfl ?_
        refine V_iload dX1_driestSize_25 rfl ?_
        refine V_iconst dX1_driestSize_27 ?_
        refine V_aload_n dX1_driestSize_28 rfl ?_
        refine V_getfi dX1_driestSize_29 sf_RX1_39 rfl (sh hS rfl) ?_
        refine V_val (show _ = ((nH w : Nat) : Int) by omega) ?_
        refine V_callV dX1_driestSize_32 (c_restDepth g _ w hX (nH w) (by omega) ((n : Int) + 1) 0 (by omega) (by decide) (dep w) (fun j hj => ⟨hD.1 j (by omega), dep_b w j⟩)) sv_RX1_55 (sh hS rfl) rfl ⟨⟨by decide, by decide⟩, ⟨by decide, by decide⟩⟩ (Nat.le_of_ble_eq_true rfl) (fun r32 s32 p32 => ?_)
        obtain ⟨rfl, rfl⟩ := p32
        refine V_istore dX1_driestSize_35 (by decide) rfl ?_
        refine V_iload dX1_driestSize_37 rfl ?_
        refine V_bipush dX1_driestSize_39 (by decide) ?_
        refine V_icmpne (tgt := 49) dX1_driestSize_41 (by decide) (by omega) (by omega) (fun br41 => ?_) (fun br41 => ?_)
        · refine V_aload_n dX1_driestSize_49 rfl ?_
          refine V_iload dX1_driestSize_50 rfl ?_
          refine V_aload_n dX1_driestSize_52 rfl ?_
          refine V_iload dX1_driestSize_53 rfl ?_
          refine V_iload dX1_driestSize_55 rfl ?_
          refine V_callS dX1_driestSize_57 (c_gripAt g _ w hX _ ((n : Int) + 1) (by omega) (by omega)) ss_RX1_59 rfl ⟨⟨by decide, by decide⟩, ⟨by decide, by decide⟩⟩ (Nat.le_of_ble_eq_true rfl) (fun r57 s57 p57 => ?_)
          obtain ⟨rfl, rfl⟩ := p57
          refine V_iload_n dX1_driestSize_60 rfl ?_
          refine V_callV dX1_driestSize_61 (c_howManyWetWith g _ hS P hP _ _ t (by omega) (by have := grp_b hX.2.2 (h := rst w ((n : Int) + 1) (far w 0 (dep w) (nH w))) (size := (n : Int) + 1) (by omega) (by omega); omega) ht) sv_RX1_98 (sh hS rfl) rfl ⟨⟨by decide, by decide⟩, ⟨by decide, by decide⟩⟩ (Nat.le_of_ble_eq_true rfl) (fun r61 s61 p61 => ?_)
          obtain ⟨rfl, rfl⟩ := p61
          refine V_mask [true, true, true, true, true, true, true, false, false] ?_
          first
            | exact fin _ (if_pos (by omega)).symm (by omega)
            | exact fin _ (if_neg (by omega)).symm (by omega)
        · refine V_iload dX1_driestSize_44 rfl ?_
          refine V_goto (tgt := 64) dX1_driestSize_46 (by decide) ?_
          refine V_mask [true, true, true, true, true, true, true, false, false] ?_
          first
            | exact fin _ (if_pos (by omega)).symm (by omega)
            | exact fin _ (if_neg (by omega)).symm (by omega)
  refine V_bipush dX1_driestSize_0 (by decide) ?_
  refine V_istore dX1_driestSize_2 (by decide) rfl ?_
  refine V_aload_n dX1_driestSize_4 rfl ?_
  refine V_iload_n dX1_driestSize_5 rfl ?_
  refine V_callV dX1_driestSize_6 (c_wetBelow g _ hS P hP t ht) sv_RX1_90 (sh hS rfl) rfl ⟨⟨by decide, by decide⟩, ⟨by decide, by decide⟩⟩ (Nat.le_of_ble_eq_true rfl) (fun r6 s6 p6 => ?_)
  obtain ⟨rfl, rfl⟩ := p6
  have wb := wetF_b P t 9
  have w9 : (2 : Nat) ^ 9 = 512 := by decide
  refine V_callS dX1_driestSize_9 (c_bitCount g _ _ (by omega) (by omega)) ss_RX1_93 rfl ⟨⟨by decide, by decide⟩, ⟨by decide, by decide⟩⟩ (Nat.le_of_ble_eq_true rfl) (fun r9 s9 p9 => ?_)
  obtain ⟨rfl, rfl⟩ := p9
  refine V_istore dX1_driestSize_12 (by decide) rfl ?_
  refine V_iconst dX1_driestSize_14 ?_
  refine V_istore dX1_driestSize_15 (by decide) rfl ?_
  refine V_mask [true, true, true, true, true, true, true, false, false] ?_
  exact loop _ 0 (Nat.lt_succ_self _) (Nat.zero_le _)