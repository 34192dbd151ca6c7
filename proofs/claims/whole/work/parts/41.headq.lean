/-! heads: the least row's digits, a told row; what the class answers -/
def hN (w : Nat → Int) (r : Int) (k : Nat) (l : List Nat) (s : Int) : Nat := (l.find? fun x => decide (plusN (spt r (wid w x) s) (hM w r k (drp l x) (s + wid w x)) = hM w r (k + 1) l s)).getD 0
def hA (w : Nat → Int) (r : Int) : Nat → List Nat → Int → List Nat
  | 0, _, _ => []
  | k + 1, l, s => if 2 * r ≤ s then [] else hN w r k l s :: hA w r k (drp l (hN w r k l s)) (s + wid w (hN w r k l s))
def dg (d : Int) : List Nat → Int
  | [] => d
  | x :: t => dg (d * 10 + x + 1) t
theorem find_cong {p q : Nat → Bool} : ∀ {l : List Nat}, (∀ x ∈ l, p x = q x) → l.find? p = l.find? q
  | [], _ => rfl
  | a :: t, h => by
    rw [List.find?_cons, List.find?_cons, h a List.mem_cons_self, find_cong (fun x hx => h x (List.mem_cons_of_mem _ hx))]
theorem hN_is {w : Nat → Int} (hW : WF w) {r : Int} {L k : Nat} (hL : L < 2 ^ nB w) (hk : (remL w L).length = k + 1) : hN w r k (remL w L) (eW w L) = fN w r L := by
  unfold hN fN
  rw [find_cong (fun x hx => ?_)]
  have q := (rem_in hL).mp hx
  have a := rem_add hW hL q.1 q.2
  unfold onM
  have e : tvM w r (L + 2 ^ x) = hM w r k (drp (remL w L) x) (eW w L + wid w x) := by
    unfold tvM
    rw [a.2.1, a.2.2.1, show (drp (remL w L) x).length = k by rw [← a.2.1]; omega]
  have e2 : tvM w r L = hM w r (k + 1) (remL w L) (eW w L) := by unfold tvM; rw [hk]
  rw [e, e2]
theorem c_hDigits (g : Gl) (τ : St) (w : Nat → Int) (hX : XS τ w) (r : Int) (hr : 1 ≤ r ∧ r ≤ 200) (hB : HB τ w r) (hT : TM τ w r 0) (hv : tvM w r 0 ≠ -5) :
    Ct g mX2_leastDigits 4 0 0 [vq (some 72)] τ (rP (vi (dg 0 (hA w r (remL w 0).length (remL w 0) (eW w 0)))) τ) := by
  refine Ct.of (by decide +kernel) (Nat.le_of_ble_eq_true rfl) ?_
  have hS := hX.1
  have hW := hX.2.2
  have hN := wf_nB hW
  have h4 := hB.2.1
  have hp : 2 ^ nB w ≤ 2 ^ 7 := pw_le hN.2
  have loop : ∀ (k L step : Nat) (d : Int), L < 2 ^ nB w → (remL w L).length = k → step + k = nB w → tvM w r L ≠ -5 → V g mX2_leastDigits (rmD 4 0 0) (QM g 0 0 (rP (vi (dg d (hA w r k (remL w L) (eW w L)))) τ)) 6 [some (vq (some 72)), some (vi (L : Int)), some (vi d), some (vi (step : Int)), none] [] 0 0 τ := by
    intro k
    induction k with
    | zero =>
      intro L step d hL hk hs hv
      have eb := eW_b hW L
      refine V_iload_n dX2_leastDigits_6 rfl ?_
      refine V_aload_n dX2_leastDigits_7 rfl ?_
      refine V_getfi dX2_leastDigits_8 sf_RX2_33 rfl (sh hS rfl) ?_
      refine V_icmpge (tgt := 57) dX2_leastDigits_11 (by decide) (by omega) (by omega) (fun br11 => ?_) (fun br11 => ?_)
      · refine V_iload_n dX2_leastDigits_57 rfl ?_
        refine V_iret dX2_leastDigits_58 rfl (Nat.le_refl _) (Nat.le_refl _) ?_
        exact rP_i rfl rfl
      · omega
    | succ k ih =>
      intro L step d hL hk hs hv
      have eb := eW_b hW L
      refine V_iload_n dX2_leastDigits_6 rfl ?_
      refine V_aload_n dX2_leastDigits_7 rfl ?_
      refine V_getfi dX2_leastDigits_8 sf_RX2_33 rfl (sh hS rfl) ?_
      refine V_icmpge (tgt := 57) dX2_leastDigits_11 (by decide) (by omega) (by omega) (fun br11 => ?_) (fun br11 => ?_)
      · omega
      · refine V_aload_n dX2_leastDigits_14 rfl ?_
        refine V_aload_n dX2_leastDigits_15 rfl ?_
        refine V_getfr dX2_leastDigits_16 sf_RX2_18 (by decide) (sh hS rfl) (rf hS rfl) ?_
        refine V_iload_n dX2_leastDigits_19 rfl ?_
        refine V_iald dX2_leastDigits_20 (sh hS rfl) (by omega) ?_
        refine V_val (show _ = eW w L by rw [Int.toNat_natCast]; exact hB.2.2.2 L hL) ?_
        refine V_callV dX2_leastDigits_21 (c_isDone g _ hS r (eW w L) hB.1 hr (by omega)) sv_RX2_55 (sh hS rfl) rfl ⟨⟨by decide, by decide⟩, ⟨by decide, by decide⟩⟩ (Nat.le_of_ble_eq_true rfl) (fun r21 s21 p21 => ?_)
        obtain ⟨rfl, rfl⟩ := p21
        refine V_ifneB (tgt := 57) dX2_leastDigits_24 (by decide) (fun br24 => ?_) (fun br24 => ?_)
        · refine V_iload_n dX2_leastDigits_57 rfl ?_
          refine V_iret dX2_leastDigits_58 rfl (Nat.le_refl _) (Nat.le_refl _) ?_
          exact rP_i (show d = dg d (if _ then _ else _) by rw [if_pos br24]; rfl) rfl
        · refine V_aload_n dX2_leastDigits_27 rfl ?_
          refine V_iload_n dX2_leastDigits_28 rfl ?_
          refine V_callV dX2_leastDigits_29 (c_hFirst g _ w hX r hr hB L hL br24 hT hv) sv_RX2_72 (sh hS rfl) rfl ⟨⟨by decide, by decide⟩, ⟨by decide, by decide⟩⟩ (Nat.le_of_ble_eq_true rfl) (fun r29 s29 p29 => ?_)
          obtain ⟨rfl, rfl, f1, f2, f3⟩ := p29
          have ra := rem_add hW hL f1 f2
          refine V_istore dX2_leastDigits_32 (by decide) rfl ?_
          refine V_iload_n dX2_leastDigits_34 rfl ?_
          refine V_bipush dX2_leastDigits_35 (by decide) ?_
          refine V_imul dX2_leastDigits_37 ?_
          refine V_iload dX2_leastDigits_38 rfl ?_
          refine V_iadd dX2_leastDigits_40 ?_
          refine V_iconst dX2_leastDigits_41 ?_
          refine V_iadd dX2_leastDigits_42 ?_
          refine V_istore_n dX2_leastDigits_43 (by decide) rfl ?_
          refine V_iload_n dX2_leastDigits_44 rfl ?_
          refine V_iconst dX2_leastDigits_45 ?_
          refine V_iload dX2_leastDigits_46 rfl ?_
          refine V_ishl dX2_leastDigits_48 (by omega) ?_
          refine V_ior dX2_leastDigits_49 ?_
          refine V_val (ior_at (by omega) (by omega) f2) ?_
          refine V_istore_n dX2_leastDigits_50 (by decide) rfl ?_
          refine V_iinc dX2_leastDigits_51 rfl (by decide) rfl ?_
          refine V_goto (tgt := 6) dX2_leastDigits_54 (by decide) ?_
          refine V_mask [true, true, true, true, false] ?_
          have e : hA w r (k + 1) (remL w L) (eW w L) = fN w r L :: hA w r k (remL w (L + 2 ^ fN w r L)) (eW w (L + 2 ^ fN w r L)) := by
            show (if _ then _ else _) = _
            rw [if_neg br24, hN_is hW hL hk, ra.2.1, ra.2.2.1]
          rw [e]
          exact ih (L + 2 ^ fN w r L) (step + 1) _ ra.1 (by omega) (by omega) (fun z => hv (by
            rw [← f3]; exact if_pos z))
  have l0 : (remL w 0).length = nB w := by
    have e : remL w 0 = List.range (nB w) := by
      unfold remL mem
      rw [List.filter_eq_self]
      intro x hx
      rw [cmp_bit (Nat.two_pow_pos _), decide_eq_true (List.mem_range.mp hx), Nat.zero_testBit]; rfl
    rw [e, List.length_range]
  refine V_iconst dX2_leastDigits_0 ?_
  refine V_istore_n dX2_leastDigits_1 (by decide) rfl ?_
  refine V_iconst dX2_leastDigits_2 ?_
  refine V_istore_n dX2_leastDigits_3 (by decide) rfl ?_
  refine V_iconst dX2_leastDigits_4 ?_
  refine V_istore_n dX2_leastDigits_5 (by decide) rfl ?_
  refine V_mask [true, true, true, true, false] ?_
  exact loop _ 0 0 0 (Nat.two_pow_pos _) rfl (by omega) hv
/-- what a row costs -/
def uF (w : Nat → Int) (r : Int) : List Nat → Int → Int → Int
  | [], e, a => if 2 * r ≤ e then a else -2
  | x :: t, e, a => if 2 * r ≤ e then -2 else uF w r t (e + wid w x) (a + spt r (wid w x) e)
theorem c_spentBy (g : Gl) (σ : St) (w : Nat → Int) (hX : XS σ w) (hz : Z0 σ) (r : Int) (hr : 1 ≤ r ∧ r ≤ 200) (hB : HB σ w r) (v : Int) (hv : inR v) :
    Ct g mX2_spentBy 3 0 0 [vq (some 72), vi v] σ (PW (uF w r (spell v (nB w) 7) 0 0) σ) := by
  refine Ct.of (by decide +kernel) (Nat.le_of_ble_eq_true rfl) ?_
  have hS := hX.1
  have hW := hX.2.2
  have hN := wf_nB hW
  have h4 := hB.2.1
  generalize hl : spell v (nB w) 7 = l
  have l7 : l.length ≤ 7 := by rw [← hl]; exact spell_len
  have lt : ∀ j, j < l.length → l.getD j 0 < nB w := fun j hj => by
    have := getD_in hj
    rw [← hl] at this
    rw [← hl]
    exact spell_lt this
  have loop : ∀ (m k : Nat) (e a : Int) (τ : St), l.length - k < m → k ≤ l.length → XW σ τ → HB τ w r → (∀ j, j < l.length → gG τ 74 j = (l.getD j 0 : Int)) → 0 ≤ e ∧ e ≤ 99 * k → 0 ≤ a → 
      V g mX2_spentBy (rmD 3 0 0) (QM g 0 0 (PW (uF w r (l.drop k) e a) σ)) 21 [some (vq (some 72)), none, some (vi (l.length : Int)), some (vi a), some (vi e), some (vi (k : Int))] [] 0 0 τ := by
    intro m
    induction m with
    | zero => intro k e a τ hm; omega
    | succ m ih =>
      intro k e a τ hm hk hK hB hr74 he ha
      have hX1 := hK.xs hX
      have hS := hX1.1
      by_cases hq : k < l.length
      · have lk := lt k hq
        have wb := wid_b hW lk
        have dk : l.drop k = l.getD k 0 :: l.drop (k + 1) := by
          rw [List.drop_eq_getElem_cons hq, List.getD_eq_getElem?_getD, List.getElem?_eq_getElem hq]; rfl
        rw [dk]
        refine V_iload dX2_spentBy_21 rfl ?_
        refine V_iload_n dX2_spentBy_23 rfl ?_
        refine V_icmpge (tgt := 78) dX2_spentBy_24 (by decide) (by omega) (by omega) (fun br24 => ?_) (fun br24 => ?_)
        · omega
        · refine V_aload_n dX2_spentBy_27 rfl ?_
          refine V_iload dX2_spentBy_28 rfl ?_
          refine V_callV dX2_spentBy_30 (c_isDone g _ hS r e hB.1 hr (by omega)) sv_RX2_55 (sh hS rfl) rfl ⟨⟨by decide, by decide⟩, ⟨by decide, by decide⟩⟩ (Nat.le_of_ble_eq_true rfl) (fun r30 s30 p30 => ?_)
          obtain ⟨rfl, rfl⟩ := p30
          refine V_ifeqB (tgt := 39) dX2_spentBy_33 (by decide) (fun br33 => ?_) (fun br33 => ?_)
          · refine V_iload_n dX2_spentBy_39 rfl ?_
            refine V_aload_n dX2_spentBy_40 rfl ?_
            refine V_aload_n dX2_spentBy_41 rfl ?_
            refine V_getfr dX2_spentBy_42 sf_RX2_15 (by decide) (sh hS rfl) (rf hS rfl) ?_
            refine V_iload dX2_spentBy_45 rfl ?_
            refine V_iald dX2_spentBy_47 (sh hS rfl) (by omega) ?_
            refine V_val (show _ = (l.getD k 0 : Int) by rw [Int.toNat_natCast]; exact hr74 k hq) ?_
            refine V_iload dX2_spentBy_48 rfl ?_
            refine V_callV dX2_spentBy_50 (c_spentOn g _ hS r (wid w (l.getD k 0)) e (l.getD k 0) (by omega) hB.1 (hB.2.2.1 _ lk) hr (by omega) (by omega)) sv_RX2_69 (sh hS rfl) rfl ⟨⟨by decide, by decide⟩, ⟨by decide, by decide⟩⟩ (Nat.le_of_ble_eq_true rfl) (fun r50 s50 p50 => ?_)
            obtain ⟨rfl, rfl⟩ := p50
            refine V_iadd dX2_spentBy_53 ?_
            refine V_istore_n dX2_spentBy_54 (by decide) rfl ?_
            refine V_iload dX2_spentBy_55 rfl ?_
            refine V_aload_n dX2_spentBy_57 rfl ?_
            refine V_getfr dX2_spentBy_58 sf_RX2_9 (by decide) (sh hS rfl) (rf hS rfl) ?_
            refine V_aload_n dX2_spentBy_61 rfl ?_
            refine V_getfr dX2_spentBy_62 sf_RX2_15 (by decide) (sh hS rfl) (rf hS rfl) ?_
            refine V_iload dX2_spentBy_65 rfl ?_
            refine V_iald dX2_spentBy_67 (sh hS rfl) (by omega) ?_
            refine V_val (show _ = (l.getD k 0 : Int) by rw [Int.toNat_natCast]; exact hr74 k hq) ?_
            refine V_iald dX2_spentBy_68 (sh hS rfl) (by omega) ?_
            refine V_val (show _ = wid w (l.getD k 0) by rw [Int.toNat_natCast]; exact hB.2.2.1 _ lk) ?_
            refine V_iadd dX2_spentBy_69 ?_
            refine V_istore dX2_spentBy_70 (by decide) rfl ?_
            refine V_iinc dX2_spentBy_72 rfl (by decide) rfl ?_
            refine V_goto (tgt := 21) dX2_spentBy_75 (by decide) ?_
            refine V_mask [true, false, true, true, true, true] ?_
            have sb := spt_b (wd := wid w (l.getD k 0)) hr (s := e) (by omega) (by omega)
            have e2 : uF w r (l.getD k 0 :: l.drop (k + 1)) e a = uF w r (l.drop (k + 1)) (e + wid w (l.getD k 0)) (a + spt r (wid w (l.getD k 0)) e) := if_neg br33
            rw [e2]
            exact ih (k + 1) _ _ τ (by omega) (by omega) hK hB hr74 (by omega) (by omega)
          · refine V_bipush dX2_spentBy_36 (by decide) ?_
            refine V_iret dX2_spentBy_38 rfl (Nat.le_refl _) (Nat.le_refl _) ?_
            exact PW_i (if_pos br33).symm hK
      · have dk : l.drop k = [] := List.drop_eq_nil_of_le (by omega)
        rw [dk]
        refine V_iload dX2_spentBy_21 rfl ?_
        refine V_iload_n dX2_spentBy_23 rfl ?_
        refine V_icmpge (tgt := 78) dX2_spentBy_24 (by decide) (by omega) (by omega) (fun br24 => ?_) (fun br24 => ?_)
        · refine V_aload_n dX2_spentBy_78 rfl ?_
          refine V_iload dX2_spentBy_79 rfl ?_
          refine V_callV dX2_spentBy_81 (c_isDone g _ hS r e hB.1 hr (by omega)) sv_RX2_55 (sh hS rfl) rfl ⟨⟨by decide, by decide⟩, ⟨by decide, by decide⟩⟩ (Nat.le_of_ble_eq_true rfl) (fun r81 s81 p81 => ?_)
          obtain ⟨rfl, rfl⟩ := p81
          refine V_ifeqB (tgt := 91) dX2_spentBy_84 (by decide) (fun br84 => ?_) (fun br84 => ?_)
          · refine V_bipush dX2_spentBy_91 (by decide) ?_
            refine V_iret dX2_spentBy_93 rfl (Nat.le_refl _) (Nat.le_refl _) ?_
            first | exact PW_i (if_pos br84).symm hK | exact PW_i (if_neg br84).symm hK
          · refine V_iload_n dX2_spentBy_87 rfl ?_
            refine V_goto (tgt := 93) dX2_spentBy_88 (by decide) ?_
            refine V_iret dX2_spentBy_93 rfl (Nat.le_refl _) (Nat.le_refl _) ?_
            first | exact PW_i (if_pos br84).symm hK | exact PW_i (if_neg br84).symm hK
        · omega
  refine V_iload_n dX2_spentBy_0 rfl ?_
  refine V_aload_n dX2_spentBy_1 rfl ?_
  refine V_getfi dX2_spentBy_2 sf_RX2_33 rfl (sh hS rfl) ?_
  refine V_val (show _ = (nB w : Int) from h4) ?_
  refine V_aload_n dX2_spentBy_5 rfl ?_
  refine V_getfr dX2_spentBy_6 sf_RX2_15 (by decide) (sh hS rfl) (rf hS rfl) ?_
  refine V_callS dX2_spentBy_9 (c_spellRow g _ v (nB w) 74 7 hv (by omega) (by decide) (sh hS rfl)) ss_RX2_75 rfl ⟨⟨by decide, by decide⟩, ⟨by decide, by decide⟩⟩ (Nat.le_of_ble_eq_true rfl) (fun r9 s9 p9 => ?_)
  obtain ⟨rfl, f, rfl, hf⟩ := p9
  rw [hl] at hf ⊢
  refine V_istore_n dX2_spentBy_12 (by decide) rfl ?_
  refine V_iconst dX2_spentBy_13 ?_
  refine V_istore_n dX2_spentBy_14 (by decide) rfl ?_
  refine V_iconst dX2_spentBy_15 ?_
  refine V_istore dX2_spentBy_16 (by decide) rfl ?_
  refine V_iconst dX2_spentBy_18 ?_
  refine V_istore dX2_spentBy_19 (by decide) rfl ?_
  refine V_mask [true, false, true, true, true, true] ?_
  exact loop _ 0 0 0 _ (Nat.lt_succ_self _) (Nat.zero_le _) ((XW.rf hz).onA (by decide)) ⟨hB.1, hB.2.1, hB.2.2.1, hB.2.2.2⟩ hf (by omega) (Int.le_refl _)
def hDig (w : Nat → Int) (r : Int) : Int := dg 0 (hA w r (remL w 0).length (remL w 0) (eW w 0))
def headA (w : Nat → Int) (r what : Int) : Int := if (1 ≤ r ∧ r ≤ 200) ∧ (0 ≤ what ∧ what ≤ 2) then (if tvM w r 0 = -5 ∨ what = 0 then tvM w r 0 else if what = 1 then ((digs (hDig w r)).length : Int) else hDig w r) else -2
def usedA (w : Nat → Int) (r v : Int) : Int := if 1 ≤ r ∧ r ≤ 200 then uF w r (spell v (nB w) 7) 0 0 else -2
def headsA (w : Nat → Int) (r : Int) : Int := if 1 ≤ r ∧ r ≤ 200 then tvC w r 0 else -2
theorem hN_lt {w : Nat → Int} {r : Int} {k : Nat} {l : List Nat} {s : Int} (h : ∀ x ∈ l, x < 9) : hN w r k l s < 9 := by
  unfold hN
  cases q : l.find? fun x => decide (plusN (spt r (wid w x) s) (hM w r k (drp l x) (s + wid w x)) = hM w r (k + 1) l s) with
  | none => decide
  | some a => exact h a (List.mem_of_find?_eq_some q)
theorem hA_b (w : Nat → Int) (r : Int) : ∀ (k : Nat) (l : List Nat) (s : Int), (∀ x ∈ l, x < 9) → (hA w r k l s).length ≤ k ∧ ∀ x ∈ hA w r k l s, x < 9
  | 0, _, _, _ => ⟨Nat.le_refl _, fun x hx => by cases hx⟩
  | k + 1, l, s, h => by
    have a := hA_b w r k (drp l (hN w r k l s)) (s + wid w (hN w r k l s)) (fun x hx => h x (drp_sub hx))
    unfold hA
    split
    · exact ⟨Nat.zero_le _, fun x hx => by cases hx⟩
    · refine ⟨by rw [List.length_cons]; omega, fun x hx => ?_⟩
      rcases List.mem_cons.mp hx with e | e
      · rw [e]; exact hN_lt h
      · exact a.2 x e
theorem dg_b : ∀ (l : List Nat) (d : Int) (p : Int), (∀ x ∈ l, x < 9) → 0 ≤ d → d < p → 0 ≤ dg d l ∧ dg d l < p * 10 ^ l.length
  | [], d, p, _, h0, h1 => by show 0 ≤ d ∧ d < p * 1; omega
  | x :: t, d, p, h, h0, h1 => by
    have hx := h x List.mem_cons_self
    have a := dg_b t (d * 10 + x + 1) (p * 10) (fun y hy => h y (List.mem_cons_of_mem _ hy)) (by omega) (by omega)
    show 0 ≤ dg (d * 10 + x + 1) t ∧ dg (d * 10 + x + 1) t < _
    rw [List.length_cons, Int.pow_succ, show p * (10 ^ t.length * 10) = p * 10 * 10 ^ t.length by rw [Int.mul_assoc, Int.mul_comm 10]]
    exact a
theorem hDig_b {w : Nat → Int} (hW : WF w) (r : Int) : inR (hDig w r) := by
  have a := hA_b w r (remL w 0).length (remL w 0) (eW w 0) (fun x hx => by have := ((rem_in (Nat.two_pow_pos _)).mp hx).1; have := wf_nB hW; omega)
  have b := dg_b _ 0 1 a.2 (Int.le_refl _) (by decide)
  have c := rem_len hW 0
  have d : (10 : Int) ^ (hA w r (remL w 0).length (remL w 0) (eW w 0)).length ≤ 10 ^ 7 := by
    have := Nat.pow_le_pow_right (show 0 < 10 by decide) (show (hA w r (remL w 0).length (remL w 0) (eW w 0)).length ≤ 7 by omega)
    have e := Int.ofNat_le.mpr this
    rw [Int.natCast_pow, Int.natCast_pow] at e
    exact e
  have e7 : (10 : Int) ^ 7 = 10000000 := by decide
  unfold hDig
  omega
theorem c_head (g : Gl) (σ : St) (w : Nat → Int) (hX : XS σ w) (hz : Z0 σ) (r what : Int) (h1 : inR r) (h2 : inR what) : Ct g mX11_head 5 0 0 [vq (some 8), vi r, vi what] σ (PW (headA w r what) σ) := by
  refine Ct.of (by decide +kernel) (Nat.le_of_ble_eq_true rfl) ?_
  have hS := hX.1
  refine V_iload_n dX11_head_0 rfl ?_
  refine V_callS dX11_head_1 (c_isRadius g _ _ (by omega)) ss_RX11_257 rfl ⟨⟨by decide, by decide⟩, ⟨by decide, by decide⟩⟩ (Nat.le_of_ble_eq_true rfl) (fun r1 s1 p1 => ?_)
  obtain ⟨rfl, rfl⟩ := p1
  refine V_ifeqB (tgt := 16) dX11_head_4 (by decide) (fun br4 => ?_) (fun br4 => ?_)
  · refine V_bipush dX11_head_16 (by decide) ?_
    refine V_iret dX11_head_18 rfl (Nat.le_refl _) (Nat.le_refl _) ?_
    exact PW_i (by unfold headA; rw [if_neg (fun z => by first | exact br4 z.1 | exact br13 z.2)]) (XW.rf hz)
  · refine V_iload_n dX11_head_7 rfl ?_
    refine V_iconst dX11_head_8 ?_
    refine V_iconst dX11_head_9 ?_
    refine V_callS dX11_head_10 (c_isIn g _ _ _ _ (by omega) (by omega) (by omega)) ss_RX11_107 rfl ⟨⟨by decide, by decide⟩, ⟨by decide, by decide⟩⟩ (Nat.le_of_ble_eq_true rfl) (fun r10 s10 p10 => ?_)
    obtain ⟨rfl, rfl⟩ := p10
    refine V_ifneB (tgt := 19) dX11_head_13 (by decide) (fun br13 => ?_) (fun br13 => ?_)
    · refine V_aload_n dX11_head_19 rfl ?_
      refine V_getfr dX11_head_20 sf_RX11_66 (by decide) (sh hS rfl) (rf hS rfl) ?_
      refine V_aload_n dX11_head_23 rfl ?_
      refine V_getfr dX11_head_24 sf_RX11_12 (by decide) (sh hS rfl) (rf hS rfl) ?_
      refine V_iload_n dX11_head_27 rfl ?_
      refine V_callV dX11_head_28 (c_measure g _ w hX hz r) sv_RX11_260 (sh hS rfl) rfl ⟨⟨by decide, by decide⟩, ⟨by decide, by decide⟩⟩ (Nat.le_of_ble_eq_true rfl) (fun r28 s28 p28 => ?_)
      obtain ⟨rfl, hK, hB⟩ := p28
      have hX1 := hK.xs hX
      have hS := hX1.1
      refine V_aload_n dX11_head_31 rfl ?_
      refine V_getfr dX11_head_32 sf_RX11_66 (by decide) (sh hS rfl) (rf hS rfl) ?_
      refine V_callV dX11_head_35 (c_hSpent g _ w hX1 hK.2.2.2.2.2 r br4 hB) sv_RX11_264 (sh hS rfl) rfl ⟨⟨by decide, by decide⟩, ⟨by decide, by decide⟩⟩ (Nat.le_of_ble_eq_true rfl) (fun r35 s35 p35 => ?_)
      obtain ⟨rfl, hK2, hB2, hT⟩ := p35
      have hX2 := hK2.xs hX1
      have hS := hX2.1
      have tb := tvM_b hX.2.2 br4 (Nat.two_pow_pos (nB w))
      have db := hDig_b hX.2.2 r
      refine V_istore_n dX11_head_38 (by decide) rfl ?_
      refine V_iload_n dX11_head_39 rfl ?_
      refine V_bipush dX11_head_40 (by decide) ?_
      refine V_icmpeq (tgt := 49) dX11_head_42 (by decide) (by omega) (by omega) (fun br42 => ?_) (fun br42 => ?_)
      · refine V_iload_n dX11_head_49 rfl ?_
        refine V_iret dX11_head_50 rfl (Nat.le_refl _) (Nat.le_refl _) ?_
        exact PW_i (by unfold headA; rw [if_pos ⟨br4, br13⟩, if_pos (by omega)]) (hK.tr hK2)
      · refine V_iload_n dX11_head_45 rfl ?_
        refine V_ifne (tgt := 51) dX11_head_46 (by decide) (by omega) (fun br46 => ?_) (fun br46 => ?_)
        · refine V_aload_n dX11_head_51 rfl ?_
          refine V_getfr dX11_head_52 sf_RX11_66 (by decide) (sh hS rfl) (rf hS rfl) ?_
          refine V_callV dX11_head_55 (c_hDigits g _ w hX2 r br4 hB2 hT br42) sv_RX11_267 (sh hS rfl) rfl ⟨⟨by decide, by decide⟩, ⟨by decide, by decide⟩⟩ (Nat.le_of_ble_eq_true rfl) (fun r55 s55 p55 => ?_)
          obtain ⟨rfl, rfl⟩ := p55
          refine V_istore dX11_head_58 (by decide) rfl ?_
          refine V_iload_n dX11_head_60 rfl ?_
          refine V_iconst dX11_head_61 ?_
          refine V_icmpne (tgt := 73) dX11_head_62 (by decide) (by omega) (by omega) (fun br62 => ?_) (fun br62 => ?_)
          · refine V_iload dX11_head_73 rfl ?_
            refine V_iret dX11_head_75 rfl (Nat.le_refl _) (Nat.le_refl _) ?_
            first | exact PW_i (by unfold headA; rw [if_pos ⟨br4, br13⟩, if_neg (by omega), if_pos (by omega)]) (hK.tr hK2) | exact PW_i (by unfold headA; rw [if_pos ⟨br4, br13⟩, if_neg (by omega), if_neg (by omega)]; rfl) (hK.tr hK2)
          · refine V_iload dX11_head_65 rfl ?_
            refine V_callS dX11_head_67 (c_howManyDigits g _ (hDig w r) db) ss_RX11_270 rfl ⟨⟨by decide, by decide⟩, ⟨by decide, by decide⟩⟩ (Nat.le_of_ble_eq_true rfl) (fun r67 s67 p67 => ?_)
            obtain ⟨rfl, rfl⟩ := p67
            refine V_goto (tgt := 75) dX11_head_70 (by decide) ?_
            refine V_iret dX11_head_75 rfl (Nat.le_refl _) (Nat.le_refl _) ?_
            first | exact PW_i (by unfold headA; rw [if_pos ⟨br4, br13⟩, if_neg (by omega), if_pos (by omega)]) (hK.tr hK2) | exact PW_i (by unfold headA; rw [if_pos ⟨br4, br13⟩, if_neg (by omega), if_neg (by omega)]; rfl) (hK.tr hK2)
        · refine V_iload_n dX11_head_49 rfl ?_
          refine V_iret dX11_head_50 rfl (Nat.le_refl _) (Nat.le_refl _) ?_
          exact PW_i (by unfold headA; rw [if_pos ⟨br4, br13⟩, if_pos (by omega)]) (hK.tr hK2)
    · refine V_bipush dX11_head_16 (by decide) ?_
      refine V_iret dX11_head_18 rfl (Nat.le_refl _) (Nat.le_refl _) ?_
      exact PW_i (by unfold headA; rw [if_neg (fun z => by first | exact br4 z.1 | exact br13 z.2)]) (XW.rf hz)
theorem c_used (g : Gl) (σ : St) (w : Nat → Int) (hX : XS σ w) (hz : Z0 σ) (r v : Int) (h1 : inR r) (h2 : inR v) : Ct g mX11_used 4 0 0 [vq (some 8), vi r, vi v] σ (PW (usedA w r v) σ) := by
  refine Ct.of (by decide +kernel) (Nat.le_of_ble_eq_true rfl) ?_
  have hS := hX.1
  refine V_iload_n dX11_used_0 rfl ?_
  refine V_callS dX11_used_1 (c_isRadius g _ _ (by omega)) ss_RX11_257 rfl ⟨⟨by decide, by decide⟩, ⟨by decide, by decide⟩⟩ (Nat.le_of_ble_eq_true rfl) (fun r1 s1 p1 => ?_)
  obtain ⟨rfl, rfl⟩ := p1
  refine V_ifneB (tgt := 10) dX11_used_4 (by decide) (fun br4 => ?_) (fun br4 => ?_)
  · refine V_aload_n dX11_used_10 rfl ?_
    refine V_getfr dX11_used_11 sf_RX11_66 (by decide) (sh hS rfl) (rf hS rfl) ?_
    refine V_aload_n dX11_used_14 rfl ?_
    refine V_getfr dX11_used_15 sf_RX11_12 (by decide) (sh hS rfl) (rf hS rfl) ?_
    refine V_iload_n dX11_used_18 rfl ?_
    refine V_callV dX11_used_19 (c_measure g _ w hX hz r) sv_RX11_260 (sh hS rfl) rfl ⟨⟨by decide, by decide⟩, ⟨by decide, by decide⟩⟩ (Nat.le_of_ble_eq_true rfl) (fun r19 s19 p19 => ?_)
    obtain ⟨rfl, hK, hB⟩ := p19
    have hX1 := hK.xs hX
    have hS := hX1.1
    refine V_aload_n dX11_used_22 rfl ?_
    refine V_getfr dX11_used_23 sf_RX11_66 (by decide) (sh hS rfl) (rf hS rfl) ?_
    refine V_iload_n dX11_used_26 rfl ?_
    refine V_callV dX11_used_27 (c_spentBy g _ w hX1 hK.2.2.2.2.2 r br4 hB v h2) sv_RX11_273 (sh hS rfl) rfl ⟨⟨by decide, by decide⟩, ⟨by decide, by decide⟩⟩ (Nat.le_of_ble_eq_true rfl) (fun r27 s27 p27 => ?_)
    obtain ⟨rfl, hK2⟩ := p27
    refine V_iret dX11_used_30 rfl (Nat.le_refl _) (Nat.le_refl _) ?_
    exact PW_i (if_pos br4).symm (hK.tr hK2)
  · refine V_bipush dX11_used_7 (by decide) ?_
    refine V_iret dX11_used_9 rfl (Nat.le_refl _) (Nat.le_refl _) ?_
    exact PW_i (if_neg br4).symm (XW.rf hz)
theorem c_heads (g : Gl) (σ : St) (w : Nat → Int) (hX : XS σ w) (hz : Z0 σ) (r : Int) (h1 : inR r) : Ct g mX11_heads 5 0 0 [vq (some 8), vi r] σ (PW (headsA w r) σ) := by
  refine Ct.of (by decide +kernel) (Nat.le_of_ble_eq_true rfl) ?_
  have hS := hX.1
  refine V_iload_n dX11_heads_0 rfl ?_
  refine V_callS dX11_heads_1 (c_isRadius g _ _ (by omega)) ss_RX11_257 rfl ⟨⟨by decide, by decide⟩, ⟨by decide, by decide⟩⟩ (Nat.le_of_ble_eq_true rfl) (fun r1 s1 p1 => ?_)
  obtain ⟨rfl, rfl⟩ := p1
  refine V_ifneB (tgt := 10) dX11_heads_4 (by decide) (fun br4 => ?_) (fun br4 => ?_)
  · refine V_aload_n dX11_heads_10 rfl ?_
    refine V_getfr dX11_heads_11 sf_RX11_66 (by decide) (sh hS rfl) (rf hS rfl) ?_
    refine V_aload_n dX11_heads_14 rfl ?_
    refine V_getfr dX11_heads_15 sf_RX11_12 (by decide) (sh hS rfl) (rf hS rfl) ?_
    refine V_iload_n dX11_heads_18 rfl ?_
    refine V_callV dX11_heads_19 (c_measure g _ w hX hz r) sv_RX11_260 (sh hS rfl) rfl ⟨⟨by decide, by decide⟩, ⟨by decide, by decide⟩⟩ (Nat.le_of_ble_eq_true rfl) (fun r19 s19 p19 => ?_)
    obtain ⟨rfl, hK, hB⟩ := p19
    have hX1 := hK.xs hX
    have hS := hX1.1
    refine V_aload_n dX11_heads_22 rfl ?_
    refine V_getfr dX11_heads_23 sf_RX11_66 (by decide) (sh hS rfl) (rf hS rfl) ?_
    refine V_callV dX11_heads_26 (c_hHowMany g _ w hX1 hK.2.2.2.2.2 r br4 hB) sv_RX11_276 (sh hS rfl) rfl ⟨⟨by decide, by decide⟩, ⟨by decide, by decide⟩⟩ (Nat.le_of_ble_eq_true rfl) (fun r26 s26 p26 => ?_)
    obtain ⟨rfl, hK2⟩ := p26
    refine V_iret dX11_heads_29 rfl (Nat.le_refl _) (Nat.le_refl _) ?_
    exact PW_i (if_pos br4).symm (hK.tr hK2)
  · refine V_bipush dX11_heads_7 (by decide) ?_
    refine V_iret dX11_heads_9 rfl (Nat.le_refl _) (Nat.le_refl _) ?_
    exact PW_i (if_neg br4).symm (XW.rf hz)