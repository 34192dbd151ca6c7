/-! digits told; the questions about rings -/
/-- the decimal digits of a number, the last first, as long as it is above 0 -/
def digN : Nat → Int → List Int
  | 0, _ => []
  | m + 1, v => if 0 < v then v % 10 :: digN m (v / 10) else []
def digs (v : Int) : List Int := digN 10 v
theorem digN_len : ∀ (m : Nat) (v : Int), (digN m v).length ≤ m
  | 0, _ => Nat.le_refl _
  | m + 1, v => by
    unfold digN
    split
    · have := digN_len m (v / 10)
      simp only [List.length_cons]; omega
    · exact Nat.zero_le _
theorem c_howManyDigits (g : Gl) (σ : St) (v : Int) (hv : inR v) : Ct g mX11_howManyDigits 0 0 0 [vi v] σ (rP (vi ((digs v).length : Int)) σ) := by
  refine Ct.of (by decide +kernel) (Nat.le_of_ble_eq_true rfl) ?_
  have loop : ∀ (m : Nat) (u many : Int) (k : Nat), k + m = 10 → inR u → V g mX11_howManyDigits (rmD 0 0 0) (QM g 0 0 (rP (vi (many + (digN m u).length)) σ)) 6 [none, some (vi many), some (vi u), some (vi (k : Int))] [] 0 0 σ := by
    intro m
    induction m with
    | zero =>
      intro u many k hk hu
      refine V_iload_n dX11_howManyDigits_6 rfl ?_
      refine V_bipush dX11_howManyDigits_7 (by decide) ?_
      refine V_icmpge (tgt := 30) dX11_howManyDigits_9 (by decide) (by omega) (by omega) (fun br9 => ?_) (fun br9 => ?_)
      · refine V_iload_n dX11_howManyDigits_30 rfl ?_
        refine V_iret dX11_howManyDigits_31 rfl (Nat.le_refl _) (Nat.le_refl _) ?_
        exact rP_i (by show many = many + ((0 : Nat) : Int); omega) rfl
      · omega
    | succ m ih =>
      intro u many k hk hu
      by_cases h0 : 0 < u
      · have e : digN (m + 1) u = u % 10 :: digN m (u / 10) := if_pos h0
        refine V_iload_n dX11_howManyDigits_6 rfl ?_
        refine V_bipush dX11_howManyDigits_7 (by decide) ?_
        refine V_icmpge (tgt := 30) dX11_howManyDigits_9 (by decide) (by omega) (by omega) (fun br9 => ?_) (fun br9 => ?_)
        · omega
        · refine V_iload_n dX11_howManyDigits_12 rfl ?_
          refine V_ifle (tgt := 30) dX11_howManyDigits_13 (by decide) (by omega) (fun br13 => ?_) (fun br13 => ?_)
          · omega
          · refine V_iinc dX11_howManyDigits_16 rfl (by decide) rfl ?_
            refine V_iload_n dX11_howManyDigits_19 rfl ?_
            refine V_bipush dX11_howManyDigits_20 (by decide) ?_
            refine V_idiv dX11_howManyDigits_22 (by omega) ?_
            refine V_istore_n dX11_howManyDigits_23 (by decide) rfl ?_
            refine V_iinc dX11_howManyDigits_24 rfl (by decide) rfl ?_
            refine V_goto (tgt := 6) dX11_howManyDigits_27 (by decide) ?_
            refine V_mask [false, true, true, true] ?_
            have q := ih (u / 10) (many + 1) (k + 1) (by omega) (by omega)
            rw [show many + 1 + ((digN m (u / 10)).length : Int) = many + ((digN (m + 1) u).length : Int) by rw [e, List.length_cons]; omega] at q
            exact q
      · have e : digN (m + 1) u = [] := if_neg h0
        refine V_iload_n dX11_howManyDigits_6 rfl ?_
        refine V_bipush dX11_howManyDigits_7 (by decide) ?_
        refine V_icmpge (tgt := 30) dX11_howManyDigits_9 (by decide) (by omega) (by omega) (fun br9 => ?_) (fun br9 => ?_)
        · omega
        · refine V_iload_n dX11_howManyDigits_12 rfl ?_
          refine V_ifle (tgt := 30) dX11_howManyDigits_13 (by decide) (by omega) (fun br13 => ?_) (fun br13 => ?_)
          · refine V_iload_n dX11_howManyDigits_30 rfl ?_
            refine V_iret dX11_howManyDigits_31 rfl (Nat.le_refl _) (Nat.le_refl _) ?_
            exact rP_i (by rw [e]; show many = many + ((0 : Nat) : Int); omega) rfl
          · omega
  refine V_iconst dX11_howManyDigits_0 ?_
  refine V_istore_n dX11_howManyDigits_1 (by decide) rfl ?_
  refine V_iload_n dX11_howManyDigits_2 rfl ?_
  refine V_istore_n dX11_howManyDigits_3 (by decide) rfl ?_
  refine V_iconst dX11_howManyDigits_4 ?_
  refine V_istore_n dX11_howManyDigits_5 (by decide) rfl ?_
  refine V_mask [false, true, true, true] ?_
  have q := loop 10 v 0 0 rfl hv
  rw [Int.zero_add] at q
  exact q
/-- the things that the digits tell (the last first), all within and unlike those of 'seen' -/
def okD (n : Nat) : List Int → Nat → Bool
  | [], _ => true
  | d :: t, seen => decide (0 ≤ d - 1) && (decide (d - 1 < n) && (!(seen.testBit (d - 1).toNat) && okD n t (seen ||| 2 ^ (d - 1).toNat)))
/-- a row told by digits: its things, the first first; none if it is no such row -/
def spell (v : Int) (n mx : Nat) : List Nat := if 1 ≤ (digs v).length ∧ (digs v).length ≤ mx ∧ okD n (digs v) 0 = true then ((digs v).map fun d => (d - 1).toNat).reverse else []
set_option maxRecDepth 100000 in
theorem insN_all : ∀ s : Nat, s < 1024 → ∀ i : Nat, i < 10 → ins (s : Int) (i : Int) = ((s ||| 2 ^ i : Nat) : Int) ∧ s ||| 2 ^ i < 1024 := by decide +kernel
theorem digN_m {m : Nat} {v : Int} (h : 0 < v) : digN (m + 1) v = v % 10 :: digN m (v / 10) := if_pos h
theorem c_spellRow (g : Gl) (σ : St) (v : Int) (n b mx : Nat) (hv : inR v) (hn : n ≤ 9) (hm : mx ≤ 8) (hb : gl σ b = some (.inr (0, mx))) : Ct g mX11_spellRow 1 0 0 [vi v, vi (n : Int), vq (some b)] σ (fun r τ => r = some (vi ((spell v n mx).length : Int)) ∧ ∃ f, τ = setA σ b f ∧ ∀ j, j < (spell v n mx).length → f j = ((spell v n mx).getD j 0 : Int)) := by
  refine Ct.of (by decide +kernel) (Nat.le_of_ble_eq_true rfl) ?_
  have hlen : (digs v).length ≤ 10 := digN_len 10 v
  have no : ∀ (f : Nat → Int), spell v n mx = [] → (fun (r : Option MV) (τ : St) => r = some (vi ((spell v n mx).length : Int)) ∧ ∃ f, τ = setA σ b f ∧ ∀ j, j < (spell v n mx).length → f j = ((spell v n mx).getD j 0 : Int)) (some (vi 0)) (setA σ b f) := by
    intro f h
    refine ⟨by rw [h]; rfl, f, rfl, fun j hj => ?_⟩
    rw [h] at hj
    exact absurd hj (Nat.not_lt_zero _)
  have loop : ∀ (L : Nat), 1 ≤ L → L ≤ mx → L = (digs v).length → ∀ (k j : Nat) (u : Int) (seen : Nat) (f : Nat → Int), j + k = L → seen < 1024 → 0 ≤ u ∧ u < 2147483648 → (digN (10 - j) u).length = k → (digs v).drop j = digN (10 - j) u → okD n (digs v) 0 = okD n (digN (10 - j) u) seen → (∀ i, i < j → f (L - 1 - i) = (((digs v).getD i 0 - 1).toNat : Int)) → ∀ i6 : Int, i6 = (k : Int) - 1 →
      V g mX11_spellRow (rmD 1 0 0) (QM g 0 0 (fun r τ => r = some (vi ((spell v n mx).length : Int)) ∧ ∃ f, τ = setA σ b f ∧ ∀ j, j < (spell v n mx).length → f j = ((spell v n mx).getD j 0 : Int))) 29 [none, some (vi (n : Int)), some (vq (some b)), some (vi (L : Int)), some (vi u), some (vi (seen : Int)), some (vi i6), none] [] 0 0 (setA σ b f) := by
    intro L hL1 hL2 hLe k
    induction k with
    | zero =>
      intro j u seen f hj hs hu hk hd hok hf i6 hi6
      have hnil : digN (10 - j) u = [] := List.length_eq_zero_iff.mp hk
      rw [hnil] at hok
      have hsp : spell v n mx = ((digs v).map fun d => (d - 1).toNat).reverse := if_pos ⟨by omega, by omega, hok⟩
      have hspl : (spell v n mx).length = L := by rw [hsp, List.length_reverse, List.length_map]; omega
      refine V_iload dX11_spellRow_29 rfl ?_
      refine V_iflt (tgt := 94) dX11_spellRow_31 (by decide) (by omega) (fun br31 => ?_) (fun br31 => ?_)
      · refine V_iload_n dX11_spellRow_94 rfl ?_
        refine V_iret dX11_spellRow_95 rfl (Nat.le_refl _) (Nat.le_refl _) ?_
        refine ⟨by rw [hspl], f, rfl, fun i hi => ?_⟩
        rw [hspl] at hi
        have := hf (L - 1 - i) (by omega)
        rw [show L - 1 - (L - 1 - i) = i by omega] at this
        rw [this, hsp, List.getD_eq_getElem?_getD, List.getD_eq_getElem?_getD, List.getElem?_reverse (by rw [List.length_map]; omega), List.length_map, List.getElem?_map, ← hLe, List.getElem?_eq_getElem (by omega)]
        rfl
      · omega
    | succ k ih =>
      intro j u seen f hj hs hu hk hd hok hf i6 hi6
      have h10 : ∃ q, 10 - j = q + 1 := by
        rcases Nat.eq_zero_or_pos (10 - j) with h | h
        · rw [h] at hk; cases hk
        · exact ⟨10 - j - 1, by omega⟩
      obtain ⟨q, hq⟩ := h10
      have hpos : 0 < u := by
        rcases Int.lt_or_le 0 u with h | h
        · exact h
        · rw [hq, show digN (q + 1) u = [] from if_neg (by omega)] at hk; cases hk
      rw [hq, digN_m hpos] at hk hd hok
      have hdj : (digs v).getD j 0 = u % 10 := by
        have : ((digs v).drop j)[0]? = some (u % 10) := by rw [hd]; rfl
        rw [List.getElem?_drop, Nat.add_zero] at this
        rw [List.getD_eq_getElem?_getD, this]; rfl
      have hS : gl (setA σ b f) b = some (.inr (0, mx)) := hb
      have bad : ¬ (0 ≤ u % 10 - 1 ∧ u % 10 - 1 < n ∧ ¬ seen.testBit (u % 10 - 1).toNat = true) → spell v n mx = [] := by
        intro h
        refine if_neg (fun z => ?_)
        rw [hok] at z
        have z3 := z.2.2
        unfold okD at z3
        simp only [Bool.and_eq_true, decide_eq_true_iff, Bool.not_eq_true'] at z3
        exact h ⟨z3.1, z3.2.1, by rw [z3.2.2.1]; decide⟩
      have hbt : 0 ≤ u % 10 - 1 → (bt (seen : Int) (u % 10 - 1) ↔ seen.testBit (u % 10 - 1).toNat = true) := fun h => by
        have := bt_nat seen (u % 10 - 1).toNat
        rwa [Int.toNat_of_nonneg h] at this
      refine V_iload dX11_spellRow_29 rfl ?_
      refine V_iflt (tgt := 94) dX11_spellRow_31 (by decide) (by omega) (fun br31 => ?_) (fun br31 => ?_)
      · omega
      · refine V_iload dX11_spellRow_34 rfl ?_
        refine V_bipush dX11_spellRow_36 (by decide) ?_
        refine V_irem dX11_spellRow_38 (by omega) ?_
        refine V_iconst dX11_spellRow_39 ?_
        refine V_isub dX11_spellRow_40 ?_
        refine V_istore dX11_spellRow_41 (by decide) rfl ?_
        refine V_iload dX11_spellRow_43 rfl ?_
        refine V_iflt (tgt := 64) dX11_spellRow_45 (by decide) (by omega) (fun br45 => ?_) (fun br45 => ?_)
        · refine V_iconst dX11_spellRow_64 ?_
          refine V_iret dX11_spellRow_65 rfl (Nat.le_refl _) (Nat.le_refl _) ?_
          first | exact no f (bad (fun z => by omega)) | exact no f (bad (fun z => z.2.2 ((hbt (by omega)).mp br61)))
        · refine V_iload dX11_spellRow_48 rfl ?_
          refine V_iload_n dX11_spellRow_50 rfl ?_
          refine V_icmpge (tgt := 64) dX11_spellRow_51 (by decide) (by omega) (by omega) (fun br51 => ?_) (fun br51 => ?_)
          · refine V_iconst dX11_spellRow_64 ?_
            refine V_iret dX11_spellRow_65 rfl (Nat.le_refl _) (Nat.le_refl _) ?_
            first | exact no f (bad (fun z => by omega)) | exact no f (bad (fun z => z.2.2 ((hbt (by omega)).mp br61)))
          · refine V_iload dX11_spellRow_54 rfl ?_
            refine V_iload dX11_spellRow_56 rfl ?_
            refine V_callS dX11_spellRow_58 (c_holds g _ _ _ (by omega) (by omega)) ss_RX11_387 rfl ⟨⟨by decide, by decide⟩, ⟨by decide, by decide⟩⟩ (Nat.le_of_ble_eq_true rfl) (fun r58 s58 p58 => ?_)
            obtain ⟨rfl, rfl⟩ := p58
            refine V_ifeqB (tgt := 66) dX11_spellRow_61 (by decide) (fun br61 => ?_) (fun br61 => ?_)
            · have hgood : 0 ≤ u % 10 - 1 ∧ u % 10 - 1 < n ∧ ¬ seen.testBit (u % 10 - 1).toNat = true := ⟨by omega, by omega, fun z => br61 ((hbt (by omega)).mpr z)⟩
              obtain ⟨dg, hdg⟩ : ∃ dg : Nat, (dg : Int) = u % 10 - 1 := ⟨(u % 10 - 1).toNat, by omega⟩
              have hdg2 : (u % 10 - 1).toNat = dg := by omega
              have hI := insN_all seen hs dg (by omega)
              refine V_aload_n dX11_spellRow_66 rfl ?_
              refine V_iload dX11_spellRow_67 rfl ?_
              refine V_iload dX11_spellRow_69 rfl ?_
              refine V_iast dX11_spellRow_71 hS (by omega) ?_
              rw [setG_A]
              refine V_iload dX11_spellRow_72 rfl ?_
              refine V_iconst dX11_spellRow_74 ?_
              refine V_iload dX11_spellRow_75 rfl ?_
              refine V_ishl dX11_spellRow_77 (by omega) ?_
              refine V_ior dX11_spellRow_78 ?_
              refine V_val (show _ = ((seen ||| 2 ^ dg : Nat) : Int) by rw [ins_of (by omega) (by omega) (by omega) (by omega), ← hdg, hI.1]) ?_
              refine V_istore dX11_spellRow_79 (by decide) rfl ?_
              refine V_iload dX11_spellRow_81 rfl ?_
              refine V_bipush dX11_spellRow_83 (by decide) ?_
              refine V_idiv dX11_spellRow_85 (by omega) ?_
              refine V_istore dX11_spellRow_86 (by decide) rfl ?_
              refine V_iinc dX11_spellRow_88 rfl (by decide) rfl ?_
              refine V_goto (tgt := 29) dX11_spellRow_91 (by decide) ?_
              refine V_mask [false, true, true, true, true, true, true, false] ?_
              have e1 : 10 - (j + 1) = q := by omega
              refine ih (j + 1) (u / 10) (seen ||| 2 ^ dg) _ (by omega) hI.2 (by omega) (by rw [e1]; simp only [List.length_cons] at hk; omega) (by rw [e1, ← List.drop_drop, hd]; rfl) ?_ (fun i hi => ?_) _ (by omega)
              · rw [hok, e1]
                show (decide (0 ≤ u % 10 - 1) && (decide (u % 10 - 1 < n) && (!(seen.testBit (u % 10 - 1).toNat) && okD n (digN q (u / 10)) (seen ||| 2 ^ (u % 10 - 1).toNat)))) = _
                rw [hdg2] at hgood ⊢
                rw [decide_eq_true hgood.1, decide_eq_true hgood.2.1, Bool.not_eq_true (seen.testBit dg) |>.mp hgood.2.2]
                rfl
              · by_cases e : i = j
                · subst e
                  rw [show i6.toNat = L - 1 - i by omega, up1_is, hdj]
                  omega
                · rw [up1_ne _ (by omega)]
                  exact hf i (by omega)
            · refine V_iconst dX11_spellRow_64 ?_
              refine V_iret dX11_spellRow_65 rfl (Nat.le_refl _) (Nat.le_refl _) ?_
              first | exact no f (bad (fun z => by omega)) | exact no f (bad (fun z => z.2.2 ((hbt (by omega)).mp br61)))
  refine V_iload_n dX11_spellRow_0 rfl ?_
  refine V_callS dX11_spellRow_1 (c_howManyDigits g _ v hv) ss_RX11_270 rfl ⟨⟨by decide, by decide⟩, ⟨by decide, by decide⟩⟩ (Nat.le_of_ble_eq_true rfl) (fun r1 s1 p1 => ?_)
  obtain ⟨rfl, rfl⟩ := p1
  refine V_istore_n dX11_spellRow_4 (by decide) rfl ?_
  skip
  refine V_iload_n dX11_spellRow_5 rfl ?_
  refine V_iconst dX11_spellRow_6 ?_
  refine V_icmplt (tgt := 16) dX11_spellRow_7 (by decide) (by omega) (by omega) (fun br7 => ?_) (fun br7 => ?_)
  · refine V_iconst dX11_spellRow_16 ?_
    refine V_iret dX11_spellRow_17 rfl (Nat.le_refl _) (Nat.le_refl _) ?_
    have q := no (gG σ b) (if_neg (by omega))
    rw [setA_same] at q
    exact q
  · refine V_iload_n dX11_spellRow_10 rfl ?_
    refine V_aload_n dX11_spellRow_11 rfl ?_
    refine V_alen dX11_spellRow_12 hb ?_
    refine V_icmple (tgt := 18) dX11_spellRow_13 (by decide) (by omega) (by omega) (fun br13 => ?_) (fun br13 => ?_)
    · refine V_iload_n dX11_spellRow_18 rfl ?_
      refine V_istore dX11_spellRow_19 (by decide) rfl ?_
      refine V_iconst dX11_spellRow_21 ?_
      refine V_istore dX11_spellRow_22 (by decide) rfl ?_
      refine V_iload_n dX11_spellRow_24 rfl ?_
      refine V_iconst dX11_spellRow_25 ?_
      refine V_isub dX11_spellRow_26 ?_
      refine V_istore dX11_spellRow_27 (by decide) rfl ?_
      refine V_mask [false, true, true, true, true, true, true, false] ?_
      exact V_sta (setA_same σ b).symm (loop (digs v).length (by omega) (by omega) rfl (digs v).length 0 v 0 (gG σ b) (by omega) (by decide) (by
        have : 0 < v := by
          rcases Int.lt_or_le 0 v with h | h
          · exact h
          · have : digs v = [] := if_neg (by omega)
            rw [this] at br7
            exact absurd (show ((0 : Nat) : Int) < 1 by decide) br7
        omega) rfl rfl rfl (fun i hi => absurd hi (Nat.not_lt_zero _)) _ rfl)
    · refine V_iconst dX11_spellRow_16 ?_
      refine V_iret dX11_spellRow_17 rfl (Nat.le_refl _) (Nat.le_refl _) ?_
      have q := no (gG σ b) (if_neg (by omega))
      rw [setA_same] at q
      exact q