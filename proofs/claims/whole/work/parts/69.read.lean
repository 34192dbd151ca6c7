/-! a text read -/
theorem stF_b {t : Nat → Int} {n : Int} : ∀ (m j : Nat) (c : Int), c ≤ n → c ≤ (stF t n m j c).2 ∧ (stF t n m j c).2 ≤ n
  | 0, _, c, h => ⟨Int.le_refl _, h⟩
  | m + 1, j, c, h => by
    unfold stF
    split
    · exact ⟨Int.le_refl _, h⟩
    · rename_i q
      have hc : c ≤ nuC t n j c ∧ nuC t n j c ≤ n := by
        unfold nuC
        by_cases e : j = 0
        · rw [if_pos e]; omega
        · rw [if_neg e]
          have : pk t n c = 44 := by
            by_cases z : pk t n c = 44
            · exact z
            · exact absurd ⟨by omega, z⟩ q
          have := pkLtN this (by decide)
          omega
      have b1 := nuS_b (t := t) hc.2
      have b2 := nuE_b (t := t) hc.2
      split
      · have := stF_b (t := t) m (j + 1) (nuE t n (nuC t n j c)) b2.2.1
        omega
      · show c ≤ nuE t n (nuC t n j c) ∧ nuE t n (nuC t n j c) ≤ n
        omega
theorem hmN_lt {t : Nat → Int} {n c : Int} (h : hmN (pk t n c) ≠ 0) : c < n := by
  have := hmN_p h
  exact pkLtN (l := pk t n c) rfl (by omega)
theorem stR_b {t : Nat → Int} {n c : Int} (hc : c ≤ n) : c ≤ (stR t n c).2 ∧ (stR t n c).2 ≤ n ∧ ((stR t n c).1 = true → hmN (pk t n c) ≠ 0) := by
  unfold stR
  split
  · exact ⟨Int.le_refl _, hc, fun z => by cases z⟩
  · rename_i q
    have h := hmN_lt q
    have := stF_b (t := t) (n := n) (hmN (pk t n c)).toNat 0 (c + 1) (by omega)
    exact ⟨by omega, by omega, fun _ => q⟩
theorem paF_ok {t : Nat → Int} {n : Int} : ∀ (m : Nat) (c : Int), 0 ≤ c → c ≤ n → (0 ≤ (paF t n m c).2.1 ∧ (paF t n m c).2.1 ≤ n) ∧ (paF t n m c).2.2.length ≤ m ∧ ∀ i, i < (paF t n m c).2.2.length → hmN (pk t n ((paF t n m c).2.2.getD i 0)) ≠ 0 ∧ 0 ≤ (paF t n m c).2.2.getD i 0
  | 0, c, h, h2 => ⟨⟨h, h2⟩, Nat.le_refl _, fun i hi => absurd hi (Nat.not_lt_zero i)⟩
  | m + 1, c, h, h2 => by
    have sb := stR_b (t := t) (n := n) h2
    unfold paF
    split
    · rename_i q
      have hl := sb.2.2 q
      split
      · refine ⟨⟨(show 0 ≤ (stR t n c).2 by omega), sb.2.1⟩, Nat.le_add_left 1 m, fun i hi => ?_⟩
        have hi1 : i < 1 := hi
        rw [show i = 0 by omega]
        exact ⟨hl, h⟩
      · split
        · rename_i q2
          have lt := pkLtN q2 (by decide)
          have ih := paF_ok (t := t) (n := n) m ((stR t n c).2 + 1) (by omega) (by omega)
          refine ⟨ih.1, Nat.succ_le_succ ih.2.1, fun i hi => ?_⟩
          match i, hi with
          | 0, _ => exact ⟨hl, h⟩
          | i + 1, hi => exact ih.2.2 i (Nat.lt_of_succ_lt_succ hi)
        · exact ⟨⟨(show 0 ≤ (stR t n c).2 by omega), sb.2.1⟩, Nat.zero_le _, fun i hi => absurd hi (Nat.not_lt_zero i)⟩
    · exact ⟨⟨(show 0 ≤ (stR t n c).2 by omega), sb.2.1⟩, Nat.zero_le _, fun i hi => absurd hi (Nat.not_lt_zero i)⟩
theorem fuF_b {t : Nat → Int} {n : Int} (hn : 0 ≤ n) : ∀ (P : List Int) (s h b : Int), (∀ i, i < P.length → 0 ≤ P.getD i 0 ∧ P.getD i 0 ≤ n) → -1 ≤ fuF t n P s h b ∧ fuF t n P s h b ≤ n
  | [], _, _, _, _ => ⟨Int.le_refl _, (show -1 ≤ n by omega)⟩
  | c :: r, s, h, b, q => by
    have q0 := q 0 (Nat.succ_pos _)
    unfold fuF
    split
    · exact fuF_b hn r _ _ _ (fun i hi => q (i + 1) (Nat.succ_lt_succ hi))
    · have : (c :: r).getD 0 0 = c := rfl
      omega
/-- the tape emptied; a counter -/
def cN (A : Ab) (k : Nat) (v : Int) : Ab := (aW A, aO A, up1 (aC A) k v, A.2.2.2)
/-- as far as a text can be done -/
def doT (A : Ab) (t : Nat → Int) (n : Int) : List Int → Ab
  | [] => A
  | c :: r => if (aW A 4 + adl (pk t n c) 115 ≤ 9 ∧ aW A 5 + adl (pk t n c) 104 ≤ 6 ∧ aW A 6 + adl (pk t n c) 98 ≤ 7) ∧ okT t n c then doT (doN A t n c) t n r else A
def psA (A : Ab) : Bool × Int × List Int := paF (aT A) (aC A 3) 27 0
def fuA (A : Ab) : Int := fuF (aT A) (aC A 3) (psA A).2.2 (aW A 4) (aW A 5) (aW A 6)
def readV (A : Ab) : Int := if (psA A).1 = true then (if fuA A = -1 then ((psA A).2.2.length : Int) else -300 - fuA A) else -100 - (psA A).2.1
def readN (A : Ab) : Ab := if (psA A).1 = true then (if fuA A = -1 then cN (doL (cN A 3 0) (aT A) (aC A 3) (psA A).2.2) 2 (aC (doL (cN A 3 0) (aT A) (aC A 3) (psA A).2.2) 2 + 1) else cN (cN A 3 0) 1 (aC (doT (cN A 3 0) (aT A) (aC A 3) (psA A).2.2) 1)) else cN A 3 0
theorem cN_c {A : Ab} {k : Nat} {v : Int} : aC (cN A k v) k = v := up1_is _ _ _
theorem cN_o {A : Ab} {k j : Nat} {v : Int} (h : j ≠ k) : aC (cN A k v) j = aC A j := up1_ne _ h _
theorem c_read (g : Gl) (σ : St) (A : Ab) (N : Nat) (hC : CL σ A) (hA : AI A N) : Ct g mX11_read 5 27 108 [vq (some 8)] σ (PC (readV A) (readN A) σ) := by
  refine Ct.of (by decide +kernel) (Nat.le_of_ble_eq_true rfl) ?_
  have hS := hC.1
  obtain ⟨e1, e2⟩ := hC.2.2.2.2.2.1
  have hT : TT σ (aT A) (aC A 3) := ⟨e1, hA.2.2.2.2.1.1, fun k hk => ⟨e2 k hk, hA.2.2.2.2.1.2 k hk⟩⟩
  have hn := hA.2.2.2.2.1.1
  have hpa := paF_ok (t := aT A) (n := aC A 3) 27 0 (Int.le_refl _) hn.1
  have hA0 : AI (cN A 3 0) N := ⟨hA.1, hA.2.1, hA.2.2.1, hA.2.2.2.1, ⟨⟨Int.le_refl _, (by decide : (0 : Int) ≤ 80)⟩, fun k hk => absurd (show (k : Int) < 0 from hk) (by omega)⟩, hA.2.2.2.2.2⟩
  have hfb : -1 ≤ fuA A ∧ fuA A ≤ aC A 3 := fuF_b hn.1 _ _ _ _ (fun i hi => ⟨(hpa.2.2 i hi).2, Int.le_of_lt (hmN_lt (hpa.2.2 i hi).1)⟩)
  refine V_aload_n dX11_read_0 rfl ?_
  refine V_getfr dX11_read_1 sf_RX11_34 (by decide) (sh hS rfl) (rf hS rfl) ?_
  refine V_callV dX11_read_4 (c_parse g _ hS (aT A) (aC A 3) hT) sv_RX11_282 (sh hS rfl) rfl ⟨⟨by decide, by decide⟩, ⟨by decide, by decide⟩⟩ (Nat.le_of_ble_eq_true rfl) (fun r4 s4 p4 => ?_)
  obtain ⟨rfl, hG, p6, pr⟩ := p4
  have hS := hG.std hS
  have hFM : FM σ s4 := fun a h1 h2 => ⟨hG.2.1 a (by omega), by rw [hG.1.2.2.1]⟩
  have hC1 : CL (setG s4 20 4 0) (cN A 3 0) := hC.tape (τ := setG s4 20 4 0) (c := up1 (aC A) 3 0) (t := aT A) hG.1.1 hG.1.2.1 hG.1.2.2.1 hG.1.2.2.2 (fun a h1 h2 => (up1_ne _ (by omega) _).trans (hG.2.1 a (by omega))) ((gG_ne _ _ (Or.inl (by decide))).trans ((congrFun (hG.2.1 8 (by decide)) 2).trans hC.2.2.2.2.1.1)) ((gG_ne _ _ (Or.inl (by decide))).trans ((congrFun (hG.2.1 8 (by decide)) 5).trans hC.2.2.2.2.2.2.1)) rfl (gG_is _ _ _ _) (fun k hk => absurd (show (k : Int) < 0 from hk) (by omega))
  have hF1 : FM σ (setG s4 20 4 0) := hFM.onG _ _ (by decide)
  have hX1 := hC1.xs hA0
  refine V_istore_n dX11_read_7 (by decide) rfl ?_
  refine V_aload_n dX11_read_8 rfl ?_
  refine V_getfr dX11_read_9 sf_RX11_34 (by decide) (sh hS rfl) (rf hS rfl) ?_
  refine V_getfi dX11_read_12 sf_RX11_286 rfl (sh hS rfl) ?_
  refine V_istore_n dX11_read_15 (by decide) rfl ?_
  refine V_aload_n dX11_read_16 rfl ?_
  refine V_getfr dX11_read_17 sf_RX11_34 (by decide) (sh hS rfl) (rf hS rfl) ?_
  refine V_iconst dX11_read_20 ?_
  refine V_puti dX11_read_21 (sp_RX11_127 _) rfl (sh hS rfl) ?_
  refine V_iload_n dX11_read_24 rfl ?_
  refine V_ifneB (tgt := 33) dX11_read_25 (by decide) (fun br25 => ?_) (fun br25 => ?_)
  · have pr := pr br25
    have br25 : (psA A).1 = true := br25
    have hR : RLs (setG s4 20 4 0) (aT A) (aC A 3) (psA A).2.2 := ⟨(gG_ne _ _ (Or.inr (by decide))).trans pr.1, hpa.2.1, fun i hi => ⟨(pr.2 i hi).onG _ _, (hpa.2.2 i hi).1⟩⟩
    refine V_aload_n dX11_read_33 rfl ?_
    refine V_getfr dX11_read_34 sf_RX11_34 (by decide) (sh hS rfl) (rf hS rfl) ?_
    refine V_aload_n dX11_read_37 rfl ?_
    refine V_getfr dX11_read_38 sf_RX11_12 (by decide) (sh hS rfl) (rf hS rfl) ?_
    refine V_callV dX11_read_41 (c_firstUndoable g _ (aW A) hX1 (aT A) (aC A 3) (psA A).2.2 hR) sv_RX11_289 (sh hS rfl) rfl ⟨⟨by decide, by decide⟩, ⟨by decide, by decide⟩⟩ (Nat.le_of_ble_eq_true rfl) (fun r41 s41 p41 => ?_)
    obtain ⟨rfl, rfl⟩ := p41
    refine V_val (show _ = fuA A from rfl) ?_
    refine V_istore_n dX11_read_44 (by decide) rfl ?_
    refine V_iload_n dX11_read_45 rfl ?_
    refine V_iconst dX11_read_46 ?_
    refine V_icmpeq (tgt := 56) dX11_read_47 (by decide) (by omega) (by omega) (fun br47 => ?_) (fun br47 => ?_)
    · refine V_aload_n dX11_read_56 rfl ?_
      refine V_getfr dX11_read_57 sf_RX11_34 (by decide) (sh hS rfl) (rf hS rfl) ?_
      refine V_aload_n dX11_read_60 rfl ?_
      refine V_getfr dX11_read_61 sf_RX11_12 (by decide) (sh hS rfl) (rf hS rfl) ?_
      refine V_callV dX11_read_64 (c_carryOut g _ (cN A 3 0) N hC1 hA0 (aT A) (aC A 3) (psA A).2.2 hR (fun i hi => (hpa.2.2 i hi).2) br47) sv_RX11_293 (sh hS rfl) rfl ⟨⟨by decide, by decide⟩, ⟨by decide, by decide⟩⟩ (Nat.le_of_ble_eq_true rfl) (fun r64 s64 p64 => ?_)
      obtain ⟨rfl, z1, z2, z3⟩ := p64
      have hS := z1.1
      have hB := hA0.dol (t := aT A) (n := aC A 3) (psA A).2.2
      refine V_aload_n dX11_read_67 rfl ?_
      refine V_dup dX11_read_68 rfl ?_
      refine V_getfi dX11_read_69 sf_RX11_38 rfl (sh hS rfl) ?_
      refine V_val (show _ = aC (doL (cN A 3 0) (aT A) (aC A 3) (psA A).2.2) 2 from z1.2.2.2.2.2.2.1) ?_
      refine V_iconst dX11_read_72 ?_
      refine V_iadd dX11_read_73 ?_
      refine V_puti dX11_read_74 (sp_RX11_38 _) rfl (sh hS rfl) ?_
      refine V_aload_n dX11_read_77 rfl ?_
      refine V_getfr dX11_read_78 sf_RX11_34 (by decide) (sh hS rfl) (rf hS rfl) ?_
      refine V_getfi dX11_read_81 sf_RX11_296 rfl (sh hS rfl) ?_
      refine V_val (show _ = ((psA A).2.2.length : Int) from (gG_ne _ _ (Or.inl (by decide))).trans ((congrFun (z3 20 (by decide) (by decide)) 5).trans hR.1)) ?_
      refine V_iret dX11_read_84 rfl (Nat.le_of_ble_eq_true rfl) (Nat.le_of_ble_eq_true rfl) ?_
      unfold readV readN
      rw [if_pos br25, if_pos br25, if_pos br47, if_pos br47]
      refine PC_i rfl ?_ ((hF1.tr z2).onG _ _ (by decide))
      exact z1.tape (τ := setG s64 8 5 _) (c := up1 (aC (doL (cN A 3 0) (aT A) (aC A 3) (psA A).2.2)) 2 (aC (doL (cN A 3 0) (aT A) (aC A 3) (psA A).2.2) 2 + 1)) (t := aT (doL (cN A 3 0) (aT A) (aC A 3) (psA A).2.2)) rfl rfl rfl rfl (fun a h1 h2 => up1_ne _ h1 _) ((gG_ne _ _ (Or.inr (by decide))).trans z1.2.2.2.2.1.1) ((gG_is _ _ _ _).trans (up1_is _ _ _).symm) (up1_ne _ (by decide) _) ((gG_ne _ _ (Or.inl (by decide))).trans (z1.2.2.2.2.2.1.1.trans (up1_ne _ (by decide) _).symm)) (fun k hk => (gG_ne _ _ (Or.inl (by decide))).trans (z1.2.2.2.2.2.1.2 k (by rwa [up1_ne _ (by decide)] at hk)))
    · refine V_sipush dX11_read_50 (by decide) ?_
      refine V_iload_n dX11_read_53 rfl ?_
      refine V_isub dX11_read_54 ?_
      refine V_iret dX11_read_55 rfl (Nat.le_of_ble_eq_true rfl) (Nat.le_of_ble_eq_true rfl) ?_
      unfold readV readN
      rw [if_pos br25, if_pos br25, if_neg br47, if_neg br47]
      refine PC_i rfl ?_ hF1
      exact hC1.tape (τ := setG s4 20 4 0) (c := up1 (up1 (aC A) 3 0) 1 _) (t := aT A) rfl rfl rfl rfl (fun _ _ _ => rfl) hC1.2.2.2.2.1.1 hC1.2.2.2.2.2.2.1 rfl (gG_is _ _ _ _) (fun k hk => absurd (show (k : Int) < 0 from hk) (by omega))
  · have br25 : ¬ (psA A).1 = true := br25
    refine V_bipush dX11_read_28 (by decide) ?_
    refine V_iload_n dX11_read_30 rfl ?_
    refine V_isub dX11_read_31 ?_
    refine V_iret dX11_read_32 rfl (Nat.le_of_ble_eq_true rfl) (Nat.le_of_ble_eq_true rfl) ?_
    unfold readV readN
    rw [if_neg br25, if_neg br25]
    exact PC_i (by rw [p6]; rfl) hC1 hF1