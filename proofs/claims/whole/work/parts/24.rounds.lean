/-! sums over sets; Rounds -/
theorem bt_nat (s i : Nat) : bt (s : Int) (i : Int) ↔ s.testBit i = true := by
  rw [Nat.testBit_eq_decide_div_mod_eq, decide_eq_true_iff]
  show (s : Int) / 2 ^ (i : Int).toNat % 2 = 1 ↔ _
  rw [Int.toNat_natCast]
  have e : ((s / 2 ^ i % 2 : Nat) : Int) = (s : Int) / 2 ^ i % 2 := by
    rw [Int.natCast_emod, Int.natCast_ediv, Int.natCast_pow]; rfl
  omega
/-- what f gives over the members of s below n -/
def sumB (f : Nat → Int) (s : Nat) : Nat → Int
  | 0 => 0
  | n + 1 => sumB f s n + (if s.testBit n = true then f n else 0)
theorem sumB_low {f : Nat → Int} {s t : Nat} : ∀ n : Nat, (∀ j, j < n → s.testBit j = t.testBit j) → sumB f s n = sumB f t n
  | 0, _ => rfl
  | n + 1, h => by
    unfold sumB
    rw [sumB_low n (fun j hj => h j (by omega)), h n (by omega)]
theorem sumB_lt {f : Nat → Int} {s n : Nat} (h : s < 2 ^ n) : sumB f s (n + 1) = sumB f s n := by
  show sumB f s n + _ = _
  rw [if_neg (by rw [Nat.testBit_lt_two_pow h]; decide), Int.add_zero]
theorem sumB_add {f : Nat → Int} {s n : Nat} (h : s < 2 ^ n) : sumB f (2 ^ n + s) (n + 1) = sumB f s n + f n := by
  show sumB f (2 ^ n + s) n + _ = _
  rw [if_pos (by rw [Nat.testBit_two_pow_add_eq, Nat.testBit_lt_two_pow h]; rfl), sumB_low n (fun j hj => Nat.testBit_two_pow_add_gt hj s)]
theorem sumB_bd {f : Nat → Int} {s : Nat} {B : Int} (hB : 0 ≤ B) : ∀ n : Nat, (∀ j, j < n → 0 ≤ f j ∧ f j ≤ B) → 0 ≤ sumB f s n ∧ sumB f s n ≤ n * B
  | 0, _ => by simp [sumB]
  | n + 1, h => by
    have ih := sumB_bd (s := s) hB n (fun j hj => h j (by omega))
    have hn := h n (by omega)
    have e : ((n + 1 : Nat) : Int) * B = n * B + B := by rw [Int.natCast_add, Int.add_mul]; simp
    rw [e]
    unfold sumB
    split <;> omega
def nS (w : Nat → Int) : Nat := (w 4).toNat
def csum (w : Nat → Int) (s : Nat) : Int := sumB (cnt w) s (nS w)
def psum (w : Nat → Int) (s : Nat) : Int := sumB (pri w) s (nS w)
theorem wf_n {w : Nat → Int} (h : WF w) : (nS w : Int) = w 4 ∧ nS w ≤ 9 := by
  have := h.2.2.2.2.1
  unfold nS
  omega
theorem wf_cnt {w : Nat → Int} (h : WF w) {i : Nat} (hi : i < nS w) : 1 ≤ cnt w i ∧ cnt w i ≤ 101 := cntK_b (h.s (by have := wf_n h; omega)).2.1
theorem wf_edg {w : Nat → Int} (h : WF w) {i : Nat} (hi : i < nS w) : -11 ≤ edg w i ∧ edg w i ≤ 10 := edgeK_b (h.s (by have := wf_n h; omega)).2.2.2
theorem wf_pri {w : Nat → Int} (h : WF w) {i : Nat} (hi : i < nS w) : 0 ≤ pri w i ∧ pri w i ≤ 898 := priceK_b (h.s (by have := wf_n h; omega)).2.1 (h.s (by have := wf_n h; omega)).2.2.1
theorem csum_b {w : Nat → Int} (h : WF w) (s : Nat) : 0 ≤ csum w s ∧ csum w s ≤ 909 := by
  have := sumB_bd (f := cnt w) (s := s) (B := 101) (by decide) (nS w) (fun j hj => by have := wf_cnt h hj; omega)
  have := wf_n h
  unfold csum
  omega
theorem psum_b {w : Nat → Int} (h : WF w) (s : Nat) : 0 ≤ psum w s ∧ psum w s ≤ 8082 := by
  have := sumB_bd (f := pri w) (s := s) (B := 898) (by decide) (nS w) (fun j hj => by have := wf_pri h hj; omega)
  have := wf_n h
  unfold psum
  omega
theorem pw_le {i n : Nat} (h : i ≤ n) : 2 ^ i ≤ 2 ^ n := Nat.pow_le_pow_right (by decide) h
theorem setG_under (σ : St) {a b : Nat} (h : a ≠ b) (f e : Nat → Int) (k : Nat) (v : Int) : setG (setA (setA σ a f) b e) a k v = setA (setA σ a (up1 f k v)) b e := by
  unfold setG
  rw [gG_setA, if_neg h, gG_setA, if_pos rfl]
  refine St_ext rfl rfl ?_ rfl rfl
  show up1 (up1 (up1 (gG σ) a f) b e) a _ = up1 (up1 (gG σ) a _) b e
  rw [up1_comm _ (Ne.symm h), up1_up1]
/-- the sums stand in the rounds' rows -/
def RO (σ : St) (w : Nat → Int) : Prop := gG σ 52 2 = ((2 ^ nS w : Nat) : Int) ∧ ∀ s : Nat, s < 2 ^ nS w → gG σ 53 s = csum w s ∧ gG σ 54 s = psum w s
def PaddUp (σ : St) (w : Nat → Int) : Option MV → St → Prop := fun r σ' => r = none ∧ ∃ e f h, σ' = setA (setA (setA σ 52 e) 53 f) 54 h ∧ RO σ' w ∧ XS σ' w
theorem up1_is {α : Type} (f : Nat → α) (k : Nat) (v : α) : up1 f k v k = v := if_pos rfl
theorem up1_ne {α : Type} (f : Nat → α) {k j : Nat} (h : j ≠ k) (v : α) : up1 f k v j = f j := if_neg h
set_option maxHeartbeats 4000000 in
theorem c_addUp (g : Gl) (σ : St) (w : Nat → Int) (hX : XS σ w) (hz : gG σ 53 0 = 0 ∧ gG σ 54 0 = 0) : Ct g mX5_addUp 2 0 0 [vq (some 52), vq (some 9)] σ (PaddUp σ w) := by
  refine Ct.of (by decide +kernel) (Nat.le_of_ble_eq_true rfl) ?_
  have hS := hX.1
  have hn := hX.n4
  have hW := hX.2.2
  have hN := wf_n hW
  have stp : ∀ e f h : Nat → Int, XS (setA (setA (setA σ 52 e) 53 f) 54 h) w := fun e f h => ((hX.onA e (by decide) (by decide) (by decide)).onA f (by decide) (by decide) (by decide)).onA h (by decide) (by decide) (by decide)
  have outer : ∀ (m i : Nat) (e f h : Nat → Int), nS w - i < m → i ≤ nS w → e 2 = ((2 ^ nS w : Nat) : Int) → (∀ s : Nat, s < 2 ^ i → f s = sumB (cnt w) s i ∧ h s = sumB (pri w) s i) →
      V g mX5_addUp (rmD 2 0 0) (QM g 0 0 (PaddUp σ w)) 12 [some (vq (some 52)), some (vq (some 9)), some (vi (i : Int)), none, none, none, none, none] [] 0 0 (setA (setA (setA σ 52 e) 53 f) 54 h) := by
    intro m
    induction m with
    | zero => intro i e f h hm; omega
    | succ m ih =>
      intro i e f h hm hi he hf
      have hX1 := stp e f h
      have hS := hX1.1
      have hn1 := hX1.n4
      refine V_iload_n dX5_addUp_12 rfl ?_
      refine V_aload_n dX5_addUp_13 rfl ?_
      refine V_getfi dX5_addUp_14 sf_RX5_18 rfl (sh hS rfl) ?_
      refine V_icmpge (tgt := 121) dX5_addUp_17 (by decide) (by omega) (by omega) (fun br17 => ?_) (fun br17 => ?_)
      · have hi2 : i = nS w := by omega
        subst hi2
        refine V_vret dX5_addUp_121 rfl (Nat.le_refl _) (Nat.le_refl _) ?_
        exact ⟨rfl, e, f, h, rfl, ⟨he, fun s hs => hf s hs⟩, hX1⟩
      · obtain ⟨b, y1, y2, y3, ⟨y4, y5, y6, y7⟩, y8⟩ := hX1.s (i := (i : Int)) (by omega) (by omega)
        rw [Int.toNat_natCast] at y1 y4 y5 y6 y7 y8
        refine V_aload_n dX5_addUp_20 rfl ?_
        refine V_iload_n dX5_addUp_21 rfl ?_
        refine V_callV dX5_addUp_22 (c_sAt hX1 (by omega) (by omega) (by rw [Int.toNat_natCast]; exact y1)) sv_RX5_27 (sh hS rfl) rfl ⟨⟨by decide, by decide⟩, ⟨by decide, by decide⟩⟩ (Nat.le_of_ble_eq_true rfl) (fun r22 s22 p22 => ?_)
        obtain ⟨rfl, rfl⟩ := p22
        refine V_astore_n dX5_addUp_25 (by decide) rfl ?_
        refine V_aload_n dX5_addUp_26 rfl ?_
        refine V_ifnonnull (tgt := 34) dX5_addUp_27 (by decide) (fun a27 br27 => ?_) (fun br27 => ?_)
        · cases br27
          refine V_aload_n dX5_addUp_34 rfl ?_
          refine V_callV dX5_addUp_35 (c_counts g _ b y3 (by omega) (by omega)) sv_RX5_31 y3 rfl ⟨⟨by decide, by decide⟩, ⟨by decide, by decide⟩⟩ (Nat.le_of_ble_eq_true rfl) (fun r35 s35 p35 => ?_)
          obtain ⟨rfl, rfl⟩ := p35
          refine V_val (show _ = cnt w i by rw [y4, y5]; rfl) ?_
          refine V_istore dX5_addUp_38 (by decide) rfl ?_
          refine V_aload_n dX5_addUp_40 rfl ?_
          refine V_ifnonnull (tgt := 48) dX5_addUp_41 (by decide) (fun a41 br41 => ?_) (fun br41 => ?_)
          · cases br41
            refine V_aload_n dX5_addUp_48 rfl ?_
            refine V_callV dX5_addUp_49 (c_price g _ b y3 (by omega) (by omega) (by omega)) sv_RX5_36 y3 rfl ⟨⟨by decide, by decide⟩, ⟨by decide, by decide⟩⟩ (Nat.le_of_ble_eq_true rfl) (fun r49 s49 p49 => ?_)
            obtain ⟨rfl, rfl⟩ := p49
            refine V_val (show _ = pri w i by rw [y4, y5, y6]; rfl) ?_
            refine V_istore dX5_addUp_52 (by decide) rfl ?_
            refine V_iconst dX5_addUp_54 ?_
            refine V_iload_n dX5_addUp_55 rfl ?_
            refine V_ishl dX5_addUp_56 (by omega) ?_
            refine V_val (show _ = ((2 ^ i : Nat) : Int) by rw [Int.toNat_natCast, Int.one_mul, Int.natCast_pow]; rfl) ?_
            refine V_istore dX5_addUp_57 (by decide) rfl ?_
            refine V_iconst dX5_addUp_59 ?_
            refine V_istore dX5_addUp_60 (by decide) rfl ?_
            refine V_mask [true, true, true, false, true, true, true, true] ?_
            have hp1 : 2 ^ (i + 1) ≤ 2 ^ 9 := pw_le (by omega)
            have hp2 : 2 ^ (i + 1) = 2 * 2 ^ i := by rw [Nat.pow_succ]; omega
            obtain ⟨B, hB⟩ : ∃ B, B = 2 ^ i := ⟨_, rfl⟩
            rw [← hB] at hp2 hf ⊢
            have inner : ∀ (m2 s : Nat) (f2 h2 : Nat → Int), B - s < m2 → s ≤ B → (∀ t : Nat, t < B + s → f2 t = sumB (cnt w) t (i + 1) ∧ h2 t = sumB (pri w) t (i + 1)) →
                V g mX5_addUp (rmD 2 0 0) (QM g 0 0 (PaddUp σ w)) 62 [some (vq (some 52)), some (vq (some 9)), some (vi (i : Int)), none, some (vi (cnt w i)), some (vi (pri w i)), some (vi (B : Int)), some (vi (s : Int))] [] 0 0 (setA (setA (setA σ 52 e) 53 f2) 54 h2) := by
              intro m2
              induction m2 with
              | zero => intro s f2 h2 hm2; omega
              | succ m2 ih2 =>
                intro s f2 h2 hm2 hs hf2
                have hS := (stp e f2 h2).1
                refine V_iload dX5_addUp_62 rfl ?_
                refine V_iload dX5_addUp_64 rfl ?_
                refine V_icmpge (tgt := 115) dX5_addUp_66 (by decide) (by omega) (by omega) (fun br66 => ?_) (fun br66 => ?_)
                · have hs2 : s = B := by omega
                  subst hs2
                  refine V_iinc dX5_addUp_115 rfl (by decide) rfl ?_
                  refine V_goto (tgt := 12) dX5_addUp_118 (by decide) ?_
                  refine V_mask [true, true, true, false, false, false, false, false] ?_
                  refine V_sta rfl (ih (i + 1) e f2 h2 (by omega) (by omega) he (fun t ht => hf2 t (by rw [Nat.pow_succ, ← hB] at ht; omega)))
                · refine V_aload_n dX5_addUp_69 rfl ?_
                  refine V_getfr dX5_addUp_70 sf_RX5_9 (by decide) (sh hS rfl) (rf hS rfl) ?_
                  refine V_iload dX5_addUp_73 rfl ?_
                  refine V_iload dX5_addUp_75 rfl ?_
                  refine V_iadd dX5_addUp_77 ?_
                  refine V_aload_n dX5_addUp_78 rfl ?_
                  refine V_getfr dX5_addUp_79 sf_RX5_9 (by decide) (sh hS rfl) (rf hS rfl) ?_
                  refine V_iload dX5_addUp_82 rfl ?_
                  refine V_iald dX5_addUp_84 (sh hS rfl) (by omega) ?_
                  refine V_iload dX5_addUp_85 rfl ?_
                  refine V_iadd dX5_addUp_87 ?_
                  refine V_iast dX5_addUp_88 (sh hS rfl) (by omega) ?_
                  refine V_aload_n dX5_addUp_89 rfl ?_
                  refine V_getfr dX5_addUp_90 sf_RX5_15 (by decide) (sh hS rfl) (rf hS rfl) ?_
                  refine V_iload dX5_addUp_93 rfl ?_
                  refine V_iload dX5_addUp_95 rfl ?_
                  refine V_iadd dX5_addUp_97 ?_
                  refine V_aload_n dX5_addUp_98 rfl ?_
                  refine V_getfr dX5_addUp_99 sf_RX5_15 (by decide) (sh hS rfl) (rf hS rfl) ?_
                  refine V_iload dX5_addUp_102 rfl ?_
                  refine V_iald dX5_addUp_104 (sh hS rfl) (by omega) ?_
                  refine V_iload dX5_addUp_105 rfl ?_
                  refine V_iadd dX5_addUp_107 ?_
                  refine V_iast dX5_addUp_108 (sh hS rfl) (by omega) ?_
                  refine V_iinc dX5_addUp_109 rfl (by decide) rfl ?_
                  rw [setG_under _ (by decide), setG_A]
                  refine V_goto (tgt := 62) dX5_addUp_112 (by decide) ?_
                  refine V_mask [true, true, true, false, true, true, true, true] ?_
                  refine V_sta (show _ = setA (setA (setA σ 52 e) 53 (up1 f2 (B + s) (f2 s + cnt w i))) 54 (up1 h2 (B + s) (h2 s + pri w i)) by rw [show ((B : Int) + (s : Int)).toNat = B + s by omega, Int.toNat_natCast]; rfl) (ih2 (s + 1) _ _ (by omega) (by omega) (fun t ht => ?_))
                  have hb : s < 2 ^ i := by omega
                  by_cases ht2 : t = B + s
                  · subst ht2
                    have := hf2 s (by omega)
                    rw [up1_is, up1_is, this.1, this.2, hB, sumB_add hb, sumB_add hb, sumB_lt hb, sumB_lt hb]
                    exact ⟨rfl, rfl⟩
                  · rw [up1_ne _ ht2, up1_ne _ ht2]
                    exact hf2 t (by omega)
            exact inner (B + 1) 0 f h (by omega) (by omega) (fun t ht => by
              have := hf t (by omega)
              rw [sumB_lt (by omega), sumB_lt (by omega)]
              exact this)
          · cases br41
        · cases br27
  refine V_aload_n dX5_addUp_0 rfl ?_
  refine V_iconst dX5_addUp_1 ?_
  refine V_aload_n dX5_addUp_2 rfl ?_
  refine V_getfi dX5_addUp_3 sf_RX5_18 rfl (sh hS rfl) ?_
  refine V_ishl dX5_addUp_6 (by omega) ?_
  refine V_val (show _ = ((2 ^ nS w : Nat) : Int) by rw [hn.1, Int.one_mul, Int.natCast_pow]; rfl) ?_
  refine V_puti dX5_addUp_7 (sp_RX5_24 _) rfl (sh hS rfl) ?_
  refine V_iconst dX5_addUp_10 ?_
  refine V_istore_n dX5_addUp_11 (by decide) rfl ?_
  refine V_mask [true, true, true, false, false, false, false, false] ?_
  refine V_sta ?_ (outer (nS w + 1) 0 (up1 (gG σ 52) 2 ((2 ^ nS w : Nat) : Int)) (gG σ 53) (gG σ 54) (by omega) (by omega) rfl (fun s hs => ?_))
  · exact ((setA_same (setA (setA σ 52 (up1 (gG σ 52) 2 ((2 ^ nS w : Nat) : Int))) 53 (gG σ 53)) 54).trans (setA_same (setA σ 52 (up1 (gG σ 52) 2 ((2 ^ nS w : Nat) : Int))) 53)).symm
  · have hs0 : s = 0 := by omega
    subst hs0
    exact ⟨hz.1, hz.2⟩
theorem sumB_0 (f : Nat → Int) : ∀ n : Nat, sumB f 0 n = 0
  | 0 => rfl
  | n + 1 => by
    unfold sumB
    rw [sumB_0 f n, Nat.zero_testBit]
    rfl
theorem csum_0 (w : Nat → Int) : csum w 0 = 0 := sumB_0 _ _
theorem psum_0 (w : Nat → Int) : psum w 0 = 0 := sumB_0 _ _
theorem RO.z {σ : St} {w : Nat → Int} (h : RO σ w) : gG σ 53 0 = 0 ∧ gG σ 54 0 = 0 := by
  have := h.2 0 (Nat.two_pow_pos _)
  rw [csum_0, psum_0] at this
  exact this
/-- how many sets below k count lo .. hi -/
def cntF (w : Nat → Int) (lo hi : Int) : Nat → Int
  | 0 => 0
  | k + 1 => cntF w lo hi k + (if lo ≤ csum w k ∧ csum w k ≤ hi then 1 else 0)
theorem cntF_b (w : Nat → Int) (lo hi : Int) : ∀ k : Nat, 0 ≤ cntF w lo hi k ∧ cntF w lo hi k ≤ k
  | 0 => ⟨Int.le_refl _, Int.le_refl _⟩
  | k + 1 => by
    have := cntF_b w lo hi k
    unfold cntF
    split <;> omega
theorem cntF_t {w : Nat → Int} {lo hi : Int} {k : Nat} (h : lo ≤ csum w k ∧ csum w k ≤ hi) : cntF w lo hi (k + 1) = cntF w lo hi k + 1 := by
  show cntF w lo hi k + _ = _
  rw [if_pos h]
theorem cntF_f {w : Nat → Int} {lo hi : Int} {k : Nat} (h : ¬ (lo ≤ csum w k ∧ csum w k ≤ hi)) : cntF w lo hi (k + 1) = cntF w lo hi k := by
  show cntF w lo hi k + _ = _
  rw [if_neg h, Int.add_zero]
abbrev btr (w : Nat → Int) (a b : Nat) : Prop := csum w a < csum w b ∨ (csum w a = csum w b ∧ (psum w a < psum w b ∨ (psum w a = psum w b ∧ pc10 a < pc10 b)))
/-- the best of the sets 1 .. k - 1 that count lo .. hi; -5 if there is none -/
def bestF (w : Nat → Int) (lo hi : Int) : Nat → Int
  | 0 => -5
  | k + 1 => if k ≠ 0 ∧ (lo ≤ csum w k ∧ csum w k ≤ hi) ∧ (bestF w lo hi k = -5 ∨ btr w k (bestF w lo hi k).toNat) then (k : Int) else bestF w lo hi k
theorem bestF_t {w : Nat → Int} {lo hi : Int} {k : Nat} (h0 : k ≠ 0) (h : lo ≤ csum w k ∧ csum w k ≤ hi) (h2 : bestF w lo hi k = -5 ∨ btr w k (bestF w lo hi k).toNat) : bestF w lo hi (k + 1) = k := if_pos ⟨h0, h, h2⟩
theorem bestF_f {w : Nat → Int} {lo hi : Int} {k : Nat} (h : ¬ ((lo ≤ csum w k ∧ csum w k ≤ hi) ∧ (bestF w lo hi k = -5 ∨ btr w k (bestF w lo hi k).toNat))) : bestF w lo hi (k + 1) = bestF w lo hi k := if_neg (fun q => h q.2)
theorem bestF_1 (w : Nat → Int) (lo hi : Int) : bestF w lo hi 1 = -5 := if_neg (fun q => q.1 rfl)
theorem bestF_b (w : Nat → Int) (lo hi : Int) : ∀ k : Nat, bestF w lo hi k = -5 ∨ (1 ≤ bestF w lo hi k ∧ bestF w lo hi k < k ∧ lo ≤ csum w (bestF w lo hi k).toNat ∧ csum w (bestF w lo hi k).toNat ≤ hi)
  | 0 => Or.inl rfl
  | k + 1 => by
    have ih := bestF_b w lo hi k
    unfold bestF
    split
    · rename_i q
      right
      rw [Int.toNat_natCast]
      exact ⟨by omega, by omega, q.2.1.1, q.2.1.2⟩
    · rcases ih with q | ⟨q1, q2, q3⟩
      · exact Or.inl q
      · exact Or.inr ⟨q1, by omega, q3⟩
/-- the counts, among those of the sets 1 .. k - 1, nearest to sum -/
def nearF (w : Nat → Int) (sum : Int) : Nat → Int
  | 0 => 1000000000
  | k + 1 => if k ≠ 0 ∧ (iAbs (csum w k - sum) < iAbs (nearF w sum k - sum) ∨ (iAbs (csum w k - sum) = iAbs (nearF w sum k - sum) ∧ csum w k < nearF w sum k)) then csum w k else nearF w sum k
theorem iAbs_b {x B : Int} (h : -B ≤ x ∧ x ≤ B) : 0 ≤ iAbs x ∧ iAbs x ≤ B := by
  unfold iAbs
  split <;> omega
theorem nearF_t {w : Nat → Int} {sum : Int} {k : Nat} (h0 : k ≠ 0) (h : iAbs (csum w k - sum) < iAbs (nearF w sum k - sum) ∨ (iAbs (csum w k - sum) = iAbs (nearF w sum k - sum) ∧ csum w k < nearF w sum k)) : nearF w sum (k + 1) = csum w k := if_pos ⟨h0, h⟩
theorem nearF_f {w : Nat → Int} {sum : Int} {k : Nat} (h : ¬ (iAbs (csum w k - sum) < iAbs (nearF w sum k - sum) ∨ (iAbs (csum w k - sum) = iAbs (nearF w sum k - sum) ∧ csum w k < nearF w sum k))) : nearF w sum (k + 1) = nearF w sum k := if_neg (fun q => h q.2)
theorem nearF_b {w : Nat → Int} (h : WF w) (sum : Int) : ∀ k : Nat, 0 ≤ nearF w sum k ∧ nearF w sum k ≤ 1000000000
  | 0 => by unfold nearF; omega
  | k + 1 => by
    have ih := nearF_b h sum k
    have := csum_b h k
    unfold nearF
    split <;> omega
theorem nearF_2 {w : Nat → Int} (h : WF w) {sum : Int} (hs : 0 ≤ sum ∧ sum ≤ 999) : nearF w sum 2 = csum w 1 := by
  have e0 : nearF w sum 0 = 1000000000 := rfl
  have e1 : nearF w sum 1 = 1000000000 := by
    show (if _ then _ else nearF w sum 0) = _
    rw [if_neg (fun q => q.1 rfl), e0]
  have := csum_b h 1
  show (if _ then _ else nearF w sum 1) = _
  rw [e1, if_pos]
  refine ⟨by decide, Or.inl (show iAbs (csum w 1 - sum) < iAbs (1000000000 - sum) from ?_)⟩
  have a := iAbs_b (x := csum w 1 - sum) (B := 2000) (by omega)
  have b : iAbs (1000000000 - sum) = 1000000000 - sum := by unfold iAbs; rw [if_neg (by omega)]
  omega
theorem two_nS {w : Nat → Int} (h : WF w) : 1 ≤ 2 ^ nS w ∧ 2 ^ nS w ≤ 512 := ⟨Nat.two_pow_pos _, pw_le (n := 9) (wf_n h).2⟩
theorem c_howMany (g : Gl) (σ : St) (w : Nat → Int) (hX : XS σ w) (hR : RO σ w) (lo hi : Int) (h1 : inR lo) (h2 : inR hi) : Ct g mX5_howMany 1 0 0 [vq (some 52), vi lo, vi hi] σ (rP (vi (cntF w lo hi (2 ^ nS w))) σ) := by
  refine Ct.of (by decide +kernel) (Nat.le_of_ble_eq_true rfl) ?_
  have hS := hX.1
  have hP := two_nS hX.2.2
  have loop : ∀ (m s : Nat), 2 ^ nS w - s < m → s ≤ 2 ^ nS w → V g mX5_howMany (rmD 1 0 0) (QM g 0 0 (rP (vi (cntF w lo hi (2 ^ nS w))) σ)) 5 [some (vq (some 52)), some (vi lo), some (vi hi), some (vi (cntF w lo hi s)), some (vi (s : Int))] [] 0 0 σ := by
    intro m
    induction m with
    | zero => intro s hm; omega
    | succ m ih =>
      intro s hm hs
      have hb := cntF_b w lo hi s
      have r1 := hR.1
      have r2 := csum_b hX.2.2 s
      refine V_iload dX5_howMany_5 rfl ?_
      refine V_aload_n dX5_howMany_7 rfl ?_
      refine V_getfi dX5_howMany_8 sf_RX5_24 rfl (sh hS rfl) ?_
      refine V_icmpge (tgt := 38) dX5_howMany_11 (by decide) (by omega) (by omega) (fun br11 => ?_) (fun br11 => ?_)
      · have hs2 : s = 2 ^ nS w := by omega
        subst hs2
        refine V_iload_n dX5_howMany_38 rfl ?_
        refine V_iret dX5_howMany_39 rfl (Nat.le_refl _) (Nat.le_refl _) ?_
        exact ⟨rfl, rfl⟩
      · have r3 := (hR.2 s (by omega)).1
        refine V_aload_n dX5_howMany_14 rfl ?_
        refine V_getfr dX5_howMany_15 sf_RX5_9 (by decide) (sh hS rfl) (rf hS rfl) ?_
        refine V_iload dX5_howMany_18 rfl ?_
        refine V_iald dX5_howMany_20 (sh hS rfl) (by omega) ?_
        rw [Int.toNat_natCast, r3]
        refine V_iload_n dX5_howMany_21 rfl ?_
        refine V_iload_n dX5_howMany_22 rfl ?_
        refine V_callS dX5_howMany_23 (c_isIn g _ _ _ _ (by omega) (by omega) (by omega)) ss_RX5_39 rfl ⟨⟨by decide, by decide⟩, ⟨by decide, by decide⟩⟩ (Nat.le_of_ble_eq_true rfl) (fun r23 s23 p23 => ?_)
        obtain ⟨rfl, rfl⟩ := p23
        refine V_ifeqB (tgt := 32) dX5_howMany_26 (by decide) (fun br26 => ?_) (fun br26 => ?_)
        · refine V_iinc dX5_howMany_32 rfl (by decide) rfl ?_
          refine V_goto (tgt := 5) dX5_howMany_35 (by decide) ?_
          refine V_mask [true, true, true, true, true] ?_
          have q := ih (s + 1) (by omega) (by omega)
          first | (rw [cntF_t (by assumption)] at q; exact q) | (rw [cntF_f (by assumption)] at q; exact q)
        · refine V_iinc dX5_howMany_29 rfl (by decide) rfl ?_
          refine V_iinc dX5_howMany_32 rfl (by decide) rfl ?_
          refine V_goto (tgt := 5) dX5_howMany_35 (by decide) ?_
          refine V_mask [true, true, true, true, true] ?_
          have q := ih (s + 1) (by omega) (by omega)
          first | (rw [cntF_t (by assumption)] at q; exact q) | (rw [cntF_f (by assumption)] at q; exact q)
  refine V_iconst dX5_howMany_0 ?_
  refine V_istore_n dX5_howMany_1 (by decide) rfl ?_
  refine V_iconst dX5_howMany_2 ?_
  refine V_istore dX5_howMany_3 (by decide) rfl ?_
  refine V_mask [true, true, true, true, true] ?_
  exact loop _ 0 (Nat.lt_succ_self _) (Nat.zero_le _)
theorem c_isBetter (g : Gl) (σ : St) (w : Nat → Int) (hX : XS σ w) (hR : RO σ w) (a b : Nat) (ha : a < 2 ^ nS w) (hb : b < 2 ^ nS w) : Ct g mX5_isBetter 1 0 0 [vq (some 52), vi (a : Int), vi (b : Int)] σ (rP (vi (bI (btr w a b))) σ) := by
  refine Ct.of (by decide +kernel) (Nat.le_of_ble_eq_true rfl) ?_
  have hS := hX.1
  have hP := two_nS hX.2.2
  obtain ⟨a1, a2⟩ := hR.2 a ha
  obtain ⟨b1, b2⟩ := hR.2 b hb
  have a3 := csum_b hX.2.2 a
  have a4 := psum_b hX.2.2 a
  have b3 := csum_b hX.2.2 b
  have b4 := psum_b hX.2.2 b
  have pb : ∀ (s : Int) (n : Nat), 0 ≤ pcn s n ∧ pcn s n ≤ n := by
    intro s n
    induction n with
    | zero => exact ⟨Int.le_refl _, Int.le_refl _⟩
    | succ n ih => unfold pcn; split <;> omega
  have a5 : 0 ≤ pc10 a ∧ pc10 a ≤ 10 := pb a 10
  have b5 : 0 ≤ pc10 b ∧ pc10 b ≤ 10 := pb b 10
  refine V_aload_n dX5_isBetter_0 rfl ?_
  refine V_getfr dX5_isBetter_1 sf_RX5_9 (by decide) (sh hS rfl) (rf hS rfl) ?_
  refine V_iload_n dX5_isBetter_4 rfl ?_
  refine V_iald dX5_isBetter_5 (sh hS rfl) (by omega) ?_
  rw [Int.toNat_natCast, a1]
  refine V_aload_n dX5_isBetter_6 rfl ?_
  refine V_getfr dX5_isBetter_7 sf_RX5_9 (by decide) (sh hS rfl) (rf hS rfl) ?_
  refine V_iload_n dX5_isBetter_10 rfl ?_
  refine V_iald dX5_isBetter_11 (sh hS rfl) (by omega) ?_
  rw [Int.toNat_natCast, b1]
  refine V_icmpeq (tgt := 36) dX5_isBetter_12 (by decide) (by omega) (by omega) (fun br12 => ?_) (fun br12 => ?_)
  · refine V_aload_n dX5_isBetter_36 rfl ?_
    refine V_getfr dX5_isBetter_37 sf_RX5_15 (by decide) (sh hS rfl) (rf hS rfl) ?_
    refine V_iload_n dX5_isBetter_40 rfl ?_
    refine V_iald dX5_isBetter_41 (sh hS rfl) (by omega) ?_
    rw [Int.toNat_natCast, a2]
    refine V_aload_n dX5_isBetter_42 rfl ?_
    refine V_getfr dX5_isBetter_43 sf_RX5_15 (by decide) (sh hS rfl) (rf hS rfl) ?_
    refine V_iload_n dX5_isBetter_46 rfl ?_
    refine V_iald dX5_isBetter_47 (sh hS rfl) (by omega) ?_
    rw [Int.toNat_natCast, b2]
    refine V_icmpeq (tgt := 72) dX5_isBetter_48 (by decide) (by omega) (by omega) (fun br48 => ?_) (fun br48 => ?_)
    · refine V_iload_n dX5_isBetter_72 rfl ?_
      refine V_callS dX5_isBetter_73 (c_bitCount g _ _ (by omega) (by omega)) ss_RX5_47 rfl ⟨⟨by decide, by decide⟩, ⟨by decide, by decide⟩⟩ (Nat.le_of_ble_eq_true rfl) (fun r73 s73 p73 => ?_)
      obtain ⟨rfl, rfl⟩ := p73
      refine V_iload_n dX5_isBetter_76 rfl ?_
      refine V_callS dX5_isBetter_77 (c_bitCount g _ _ (by omega) (by omega)) ss_RX5_47 rfl ⟨⟨by decide, by decide⟩, ⟨by decide, by decide⟩⟩ (Nat.le_of_ble_eq_true rfl) (fun r77 s77 p77 => ?_)
      obtain ⟨rfl, rfl⟩ := p77
      refine V_icmpge (tgt := 87) dX5_isBetter_80 (by decide) (by omega) (by omega) (fun br80 => ?_) (fun br80 => ?_)
      · refine V_iconst dX5_isBetter_87 ?_
        refine V_zret dX5_isBetter_88 rfl (Nat.le_refl _) (Nat.le_refl _) (by first | omega | exact bI_01 _) ?_
        first | exact rP_t (by unfold btr; omega) | exact rP_f (by unfold btr; omega)
      · refine V_iconst dX5_isBetter_83 ?_
        refine V_goto (tgt := 88) dX5_isBetter_84 (by decide) ?_
        refine V_zret dX5_isBetter_88 rfl (Nat.le_refl _) (Nat.le_refl _) (by first | omega | exact bI_01 _) ?_
        first | exact rP_t (by unfold btr; omega) | exact rP_f (by unfold btr; omega)
    · refine V_aload_n dX5_isBetter_51 rfl ?_
      refine V_getfr dX5_isBetter_52 sf_RX5_15 (by decide) (sh hS rfl) (rf hS rfl) ?_
      refine V_iload_n dX5_isBetter_55 rfl ?_
      refine V_iald dX5_isBetter_56 (sh hS rfl) (by omega) ?_
      rw [Int.toNat_natCast, a2]
      refine V_aload_n dX5_isBetter_57 rfl ?_
      refine V_getfr dX5_isBetter_58 sf_RX5_15 (by decide) (sh hS rfl) (rf hS rfl) ?_
      refine V_iload_n dX5_isBetter_61 rfl ?_
      refine V_iald dX5_isBetter_62 (sh hS rfl) (by omega) ?_
      rw [Int.toNat_natCast, b2]
      refine V_icmpge (tgt := 70) dX5_isBetter_63 (by decide) (by omega) (by omega) (fun br63 => ?_) (fun br63 => ?_)
      · refine V_iconst dX5_isBetter_70 ?_
        refine V_zret dX5_isBetter_71 rfl (Nat.le_refl _) (Nat.le_refl _) (by first | omega | exact bI_01 _) ?_
        first | exact rP_t (by unfold btr; omega) | exact rP_f (by unfold btr; omega)
      · refine V_iconst dX5_isBetter_66 ?_
        refine V_goto (tgt := 71) dX5_isBetter_67 (by decide) ?_
        refine V_zret dX5_isBetter_71 rfl (Nat.le_refl _) (Nat.le_refl _) (by first | omega | exact bI_01 _) ?_
        first | exact rP_t (by unfold btr; omega) | exact rP_f (by unfold btr; omega)
  · refine V_aload_n dX5_isBetter_15 rfl ?_
    refine V_getfr dX5_isBetter_16 sf_RX5_9 (by decide) (sh hS rfl) (rf hS rfl) ?_
    refine V_iload_n dX5_isBetter_19 rfl ?_
    refine V_iald dX5_isBetter_20 (sh hS rfl) (by omega) ?_
    rw [Int.toNat_natCast, a1]
    refine V_aload_n dX5_isBetter_21 rfl ?_
    refine V_getfr dX5_isBetter_22 sf_RX5_9 (by decide) (sh hS rfl) (rf hS rfl) ?_
    refine V_iload_n dX5_isBetter_25 rfl ?_
    refine V_iald dX5_isBetter_26 (sh hS rfl) (by omega) ?_
    rw [Int.toNat_natCast, b1]
    refine V_icmpge (tgt := 34) dX5_isBetter_27 (by decide) (by omega) (by omega) (fun br27 => ?_) (fun br27 => ?_)
    · refine V_iconst dX5_isBetter_34 ?_
      refine V_zret dX5_isBetter_35 rfl (Nat.le_refl _) (Nat.le_refl _) (by first | omega | exact bI_01 _) ?_
      first | exact rP_t (by unfold btr; omega) | exact rP_f (by unfold btr; omega)
    · refine V_iconst dX5_isBetter_30 ?_
      refine V_goto (tgt := 35) dX5_isBetter_31 (by decide) ?_
      refine V_zret dX5_isBetter_35 rfl (Nat.le_refl _) (Nat.le_refl _) (by first | omega | exact bI_01 _) ?_
      first | exact rP_t (by unfold btr; omega) | exact rP_f (by unfold btr; omega)
theorem c_bestBetween (g : Gl) (σ : St) (w : Nat → Int) (hX : XS σ w) (hR : RO σ w) (lo hi : Int) (h1 : inR lo) (h2 : inR hi) : Ct g mX5_bestBetween 2 0 0 [vq (some 52), vi lo, vi hi] σ (rP (vi (bestF w lo hi (2 ^ nS w))) σ) := by
  refine Ct.of (by decide +kernel) (Nat.le_of_ble_eq_true rfl) ?_
  have hS := hX.1
  have hP := two_nS hX.2.2
  have loop : ∀ (m s : Nat), 2 ^ nS w - s < m → 1 ≤ s → s ≤ 2 ^ nS w → V g mX5_bestBetween (rmD 2 0 0) (QM g 0 0 (rP (vi (bestF w lo hi (2 ^ nS w))) σ)) 6 [some (vq (some 52)), some (vi lo), some (vi hi), some (vi (bestF w lo hi s)), some (vi (s : Int))] [] 0 0 σ := by
    intro m
    induction m with
    | zero => intro s hm; omega
    | succ m ih =>
      intro s hm h1s hs
      have hb := bestF_b w lo hi s
      have r1 := hR.1
      have r2 := csum_b hX.2.2 s
      refine V_iload dX5_bestBetween_6 rfl ?_
      refine V_aload_n dX5_bestBetween_8 rfl ?_
      refine V_getfi dX5_bestBetween_9 sf_RX5_24 rfl (sh hS rfl) ?_
      refine V_icmpge (tgt := 55) dX5_bestBetween_12 (by decide) (by omega) (by omega) (fun br12 => ?_) (fun br12 => ?_)
      · have hs2 : s = 2 ^ nS w := by omega
        subst hs2
        refine V_iload_n dX5_bestBetween_55 rfl ?_
        refine V_iret dX5_bestBetween_56 rfl (Nat.le_refl _) (Nat.le_refl _) ?_
        exact ⟨rfl, rfl⟩
      · have r3 := (hR.2 s (by omega)).1
        refine V_aload_n dX5_bestBetween_15 rfl ?_
        refine V_getfr dX5_bestBetween_16 sf_RX5_9 (by decide) (sh hS rfl) (rf hS rfl) ?_
        refine V_iload dX5_bestBetween_19 rfl ?_
        refine V_iald dX5_bestBetween_21 (sh hS rfl) (by omega) ?_
        rw [Int.toNat_natCast, r3]
        refine V_iload_n dX5_bestBetween_22 rfl ?_
        refine V_iload_n dX5_bestBetween_23 rfl ?_
        refine V_callS dX5_bestBetween_24 (c_isIn g _ _ _ _ (by omega) (by omega) (by omega)) ss_RX5_39 rfl ⟨⟨by decide, by decide⟩, ⟨by decide, by decide⟩⟩ (Nat.le_of_ble_eq_true rfl) (fun r24 s24 p24 => ?_)
        obtain ⟨rfl, rfl⟩ := p24
        refine V_ifeqB (tgt := 49) dX5_bestBetween_27 (by decide) (fun br27 => ?_) (fun br27 => ?_)
        · have q := ih (s + 1) (by omega) (by omega) (by omega)
          first | rw [bestF_t (by omega) br27 (Or.inl br33)] at q | rw [bestF_t (by omega) br27 (Or.inr br43)] at q | rw [bestF_f (fun z => br27 z.1)] at q | rw [bestF_f (fun z => z.2.elim br33 br43)] at q
          refine V_iinc dX5_bestBetween_49 rfl (by decide) rfl ?_
          refine V_goto (tgt := 6) dX5_bestBetween_52 (by decide) ?_
          refine V_mask [true, true, true, true, true] ?_
          exact q
        · refine V_iload_n dX5_bestBetween_30 rfl ?_
          refine V_bipush dX5_bestBetween_31 (by decide) ?_
          refine V_icmpeq (tgt := 46) dX5_bestBetween_33 (by decide) (by omega) (by omega) (fun br33 => ?_) (fun br33 => ?_)
          · refine V_iload dX5_bestBetween_46 rfl ?_
            refine V_istore_n dX5_bestBetween_48 (by decide) rfl ?_
            have q := ih (s + 1) (by omega) (by omega) (by omega)
            first | rw [bestF_t (by omega) br27 (Or.inl br33)] at q | rw [bestF_t (by omega) br27 (Or.inr br43)] at q | rw [bestF_f (fun z => br27 z.1)] at q | rw [bestF_f (fun z => z.2.elim br33 br43)] at q
            refine V_iinc dX5_bestBetween_49 rfl (by decide) rfl ?_
            refine V_goto (tgt := 6) dX5_bestBetween_52 (by decide) ?_
            refine V_mask [true, true, true, true, true] ?_
            exact q
          · refine V_aload_n dX5_bestBetween_36 rfl ?_
            refine V_iload dX5_bestBetween_37 rfl ?_
            refine V_iload_n dX5_bestBetween_39 rfl ?_
            refine V_val (Int.toNat_of_nonneg (by omega)).symm ?_
            refine V_callV dX5_bestBetween_40 (c_isBetter g _ w hX hR s (bestF w lo hi s).toNat (by omega) (by omega)) sv_RX5_43 (sh hS rfl) rfl ⟨⟨by decide, by decide⟩, ⟨by decide, by decide⟩⟩ (Nat.le_of_ble_eq_true rfl) (fun r40 s40 p40 => ?_)
            obtain ⟨rfl, rfl⟩ := p40
            refine V_ifeqB (tgt := 49) dX5_bestBetween_43 (by decide) (fun br43 => ?_) (fun br43 => ?_)
            · have q := ih (s + 1) (by omega) (by omega) (by omega)
              first | rw [bestF_t (by omega) br27 (Or.inl br33)] at q | rw [bestF_t (by omega) br27 (Or.inr br43)] at q | rw [bestF_f (fun z => br27 z.1)] at q | rw [bestF_f (fun z => z.2.elim br33 br43)] at q
              refine V_iinc dX5_bestBetween_49 rfl (by decide) rfl ?_
              refine V_goto (tgt := 6) dX5_bestBetween_52 (by decide) ?_
              refine V_mask [true, true, true, true, true] ?_
              exact q
            · refine V_iload dX5_bestBetween_46 rfl ?_
              refine V_istore_n dX5_bestBetween_48 (by decide) rfl ?_
              have q := ih (s + 1) (by omega) (by omega) (by omega)
              first | rw [bestF_t (by omega) br27 (Or.inl br33)] at q | rw [bestF_t (by omega) br27 (Or.inr br43)] at q | rw [bestF_f (fun z => br27 z.1)] at q | rw [bestF_f (fun z => z.2.elim br33 br43)] at q
              refine V_iinc dX5_bestBetween_49 rfl (by decide) rfl ?_
              refine V_goto (tgt := 6) dX5_bestBetween_52 (by decide) ?_
              refine V_mask [true, true, true, true, true] ?_
              exact q
  refine V_bipush dX5_bestBetween_0 (by decide) ?_
  refine V_istore_n dX5_bestBetween_2 (by decide) rfl ?_
  refine V_iconst dX5_bestBetween_3 ?_
  refine V_istore dX5_bestBetween_4 (by decide) rfl ?_
  refine V_mask [true, true, true, true, true] ?_
  have q := loop _ 1 (Nat.lt_succ_self _) (Nat.le_refl _) hP.1
  rw [bestF_1] at q
  exact q
theorem c_closestTo (g : Gl) (σ : St) (w : Nat → Int) (hX : XS σ w) (hR : RO σ w) (sum : Int) (hsm : 0 ≤ sum ∧ sum ≤ 999) (h4 : 1 ≤ nS w) : Ct g mX5_closestTo 1 0 0 [vq (some 52), vi sum] σ (rP (vi (nearF w sum (2 ^ nS w))) σ) := by
  refine Ct.of (by decide +kernel) (Nat.le_of_ble_eq_true rfl) ?_
  have hS := hX.1
  have hP := two_nS hX.2.2
  have hP2 : 2 ^ 1 ≤ 2 ^ nS w := pw_le h4
  have loop : ∀ (m s : Nat), 2 ^ nS w - s < m → 2 ≤ s → s ≤ 2 ^ nS w → V g mX5_closestTo (rmD 1 0 0) (QM g 0 0 (rP (vi (nearF w sum (2 ^ nS w))) σ)) 9 [some (vq (some 52)), some (vi sum), some (vi (nearF w sum s)), some (vi (s : Int)), none, none] [] 0 0 σ := by
    intro m
    induction m with
    | zero => intro s hm; omega
    | succ m ih =>
      intro s hm h1s hs
      have hb := nearF_b hX.2.2 sum s
      have r1 := hR.1
      have r2 := csum_b hX.2.2 s
      have u1 := iAbs_b (x := csum w s - sum) (B := 1000000000) (by omega)
      have u2 := iAbs_b (x := nearF w sum s - sum) (B := 1000000000) (by omega)
      refine V_iload_n dX5_closestTo_9 rfl ?_
      refine V_aload_n dX5_closestTo_10 rfl ?_
      refine V_getfi dX5_closestTo_11 sf_RX5_24 rfl (sh hS rfl) ?_
      refine V_icmpge (tgt := 75) dX5_closestTo_14 (by decide) (by omega) (by omega) (fun br14 => ?_) (fun br14 => ?_)
      · have hs2 : s = 2 ^ nS w := by omega
        subst hs2
        refine V_iload_n dX5_closestTo_75 rfl ?_
        refine V_iret dX5_closestTo_76 rfl (Nat.le_refl _) (Nat.le_refl _) ?_
        exact ⟨rfl, rfl⟩
      · have r3 := (hR.2 s (by omega)).1
        refine V_aload_n dX5_closestTo_17 rfl ?_
        refine V_getfr dX5_closestTo_18 sf_RX5_9 (by decide) (sh hS rfl) (rf hS rfl) ?_
        refine V_iload_n dX5_closestTo_21 rfl ?_
        refine V_iald dX5_closestTo_22 (sh hS rfl) (by omega) ?_
        rw [Int.toNat_natCast, r3]
        refine V_iload_n dX5_closestTo_23 rfl ?_
        refine V_isub dX5_closestTo_24 ?_
        refine V_abs dX5_closestTo_25 sm_RX5_53 (by decide) (by decide) (Nat.le_of_ble_eq_true rfl) (by omega) ?_
        refine V_istore dX5_closestTo_28 (by decide) rfl ?_
        refine V_iload_n dX5_closestTo_30 rfl ?_
        refine V_iload_n dX5_closestTo_31 rfl ?_
        refine V_isub dX5_closestTo_32 ?_
        refine V_abs dX5_closestTo_33 sm_RX5_53 (by decide) (by decide) (Nat.le_of_ble_eq_true rfl) (by omega) ?_
        refine V_istore dX5_closestTo_36 (by decide) rfl ?_
        refine V_iload dX5_closestTo_38 rfl ?_
        refine V_iload dX5_closestTo_40 rfl ?_
        refine V_icmplt (tgt := 62) dX5_closestTo_42 (by decide) (by omega) (by omega) (fun br42 => ?_) (fun br42 => ?_)
        · refine V_aload_n dX5_closestTo_62 rfl ?_
          refine V_getfr dX5_closestTo_63 sf_RX5_9 (by decide) (sh hS rfl) (rf hS rfl) ?_
          refine V_iload_n dX5_closestTo_66 rfl ?_
          refine V_iald dX5_closestTo_67 (sh hS rfl) (by omega) ?_
          rw [Int.toNat_natCast, r3]
          refine V_istore_n dX5_closestTo_68 (by decide) rfl ?_
          have q := ih (s + 1) (by omega) (by omega) (by omega)
          first | rw [nearF_t (by omega) (by omega)] at q | rw [nearF_f (by omega)] at q
          refine V_iinc dX5_closestTo_69 rfl (by decide) rfl ?_
          refine V_goto (tgt := 9) dX5_closestTo_72 (by decide) ?_
          refine V_mask [true, true, true, true, false, false] ?_
          exact q
        · refine V_iload dX5_closestTo_45 rfl ?_
          refine V_iload dX5_closestTo_47 rfl ?_
          refine V_icmpne (tgt := 69) dX5_closestTo_49 (by decide) (by omega) (by omega) (fun br49 => ?_) (fun br49 => ?_)
          · have q := ih (s + 1) (by omega) (by omega) (by omega)
            first | rw [nearF_t (by omega) (by omega)] at q | rw [nearF_f (by omega)] at q
            refine V_iinc dX5_closestTo_69 rfl (by decide) rfl ?_
            refine V_goto (tgt := 9) dX5_closestTo_72 (by decide) ?_
            refine V_mask [true, true, true, true, false, false] ?_
            exact q
          · refine V_aload_n dX5_closestTo_52 rfl ?_
            refine V_getfr dX5_closestTo_53 sf_RX5_9 (by decide) (sh hS rfl) (rf hS rfl) ?_
            refine V_iload_n dX5_closestTo_56 rfl ?_
            refine V_iald dX5_closestTo_57 (sh hS rfl) (by omega) ?_
            rw [Int.toNat_natCast, r3]
            refine V_iload_n dX5_closestTo_58 rfl ?_
            refine V_icmpge (tgt := 69) dX5_closestTo_59 (by decide) (by omega) (by omega) (fun br59 => ?_) (fun br59 => ?_)
            · have q := ih (s + 1) (by omega) (by omega) (by omega)
              first | rw [nearF_t (by omega) (by omega)] at q | rw [nearF_f (by omega)] at q
              refine V_iinc dX5_closestTo_69 rfl (by decide) rfl ?_
              refine V_goto (tgt := 9) dX5_closestTo_72 (by decide) ?_
              refine V_mask [true, true, true, true, false, false] ?_
              exact q
            · refine V_aload_n dX5_closestTo_62 rfl ?_
              refine V_getfr dX5_closestTo_63 sf_RX5_9 (by decide) (sh hS rfl) (rf hS rfl) ?_
              refine V_iload_n dX5_closestTo_66 rfl ?_
              refine V_iald dX5_closestTo_67 (sh hS rfl) (by omega) ?_
              rw [Int.toNat_natCast, r3]
              refine V_istore_n dX5_closestTo_68 (by decide) rfl ?_
              have q := ih (s + 1) (by omega) (by omega) (by omega)
              first | rw [nearF_t (by omega) (by omega)] at q | rw [nearF_f (by omega)] at q
              refine V_iinc dX5_closestTo_69 rfl (by decide) rfl ?_
              refine V_goto (tgt := 9) dX5_closestTo_72 (by decide) ?_
              refine V_mask [true, true, true, true, false, false] ?_
              exact q
  refine V_aload_n dX5_closestTo_0 rfl ?_
  refine V_getfr dX5_closestTo_1 sf_RX5_9 (by decide) (sh hS rfl) (rf hS rfl) ?_
  refine V_iconst dX5_closestTo_4 ?_
  refine V_iald dX5_closestTo_5 (sh hS rfl) (by omega) ?_
  rw [show ((1 : Int)).toNat = 1 from rfl, (hR.2 1 (by omega)).1, ← nearF_2 hX.2.2 hsm]
  refine V_istore_n dX5_closestTo_6 (by decide) rfl ?_
  refine V_iconst dX5_closestTo_7 ?_
  refine V_istore_n dX5_closestTo_8 (by decide) rfl ?_
  refine V_mask [true, true, true, true, false, false] ?_
  exact loop _ 2 (Nat.lt_succ_self _) (Nat.le_refl _) (by omega)
/-! a question changes the class's scratch rows alone -/
def Z0 (σ : St) : Prop := gG σ 53 0 = 0 ∧ gG σ 54 0 = 0
def XK (σ τ : St) : Prop := gl τ = gl σ ∧ gn τ = gn σ ∧ gL τ = gL σ ∧ gP τ = gP σ ∧ (∀ a, a < 25 ∨ 68 < a → gG τ a = gG σ a) ∧ Z0 τ
theorem XK.rf {σ : St} (h : Z0 σ) : XK σ σ := ⟨rfl, rfl, rfl, rfl, fun _ _ => rfl, h⟩
theorem XK.onA {σ τ : St} (h : XK σ τ) {c : Nat} {f : Nat → Int} (h1 : 25 ≤ c ∧ c ≤ 68) (h2 : (c ≠ 53 ∧ c ≠ 54) ∨ f 0 = 0) : XK σ (setA τ c f) := by
  obtain ⟨x1, x2, x3, x4, x5, x6⟩ := h
  refine ⟨x1, x2, x3, x4, fun a ha => ?_, ?_⟩
  · rw [gG_setA, if_neg (by omega)]; exact x5 a ha
  · rcases h2 with h2 | h2
    · refine ⟨?_, ?_⟩
      · rw [gG_setA, if_neg (by omega)]; exact x6.1
      · rw [gG_setA, if_neg (by omega)]; exact x6.2
    · refine ⟨?_, ?_⟩
      · rw [gG_setA]
        split
        · exact h2
        · exact x6.1
      · rw [gG_setA]
        split
        · exact h2
        · exact x6.2
theorem XK.tr {σ τ υ : St} (h : XK σ τ) (h2 : XK τ υ) : XK σ υ := by
  obtain ⟨x1, x2, x3, x4, x5, x6⟩ := h
  obtain ⟨y1, y2, y3, y4, y5, y6⟩ := h2
  exact ⟨y1.trans x1, y2.trans x2, y3.trans x3, y4.trans x4, fun a ha => (y5 a ha).trans (x5 a ha), y6⟩
theorem XK.std {σ τ : St} (h : XK σ τ) (hS : Std σ) : Std τ := by
  obtain ⟨x1, x2, x3, x4, x5, x6⟩ := h
  exact ⟨by rw [x2]; exact hS.1, by rw [x1]; exact hS.2.1, by rw [x4]; exact hS.2.2⟩
theorem XK.sr {σ τ : St} (h : XK σ τ) {a : Nat} (ha : a < 20) {w : Nat → Int} (hR : SR σ a w) : SR τ a w := by
  obtain ⟨x1, x2, x3, x4, x5, x6⟩ := h
  obtain ⟨y1, y2, y3, y4, y5⟩ := hR
  refine ⟨by rw [x5 _ (by omega)]; exact y1, by rw [x5 _ (by omega)]; exact y2, fun i hi => ?_, fun i hi => ?_, fun i hi => ?_⟩
  · obtain ⟨b, z1, z2, z3, z4⟩ := y3 i hi
    exact ⟨b, by rw [x4]; exact z1, z2, by rw [x1]; exact z3, by rw [x5 _ (by omega)]; exact z4⟩
  · obtain ⟨b, z1, z2, z3, z4⟩ := y4 i hi
    exact ⟨b, by rw [x4]; exact z1, z2, by rw [x1]; exact z3, by rw [x5 _ (by omega)]; exact z4⟩
  · obtain ⟨b, z1, z2, z3, z4⟩ := y5 i hi
    exact ⟨b, by rw [x4]; exact z1, z2, by rw [x1]; exact z3, by rw [x5 _ (by omega)]; exact z4⟩
theorem XK.xs {σ τ : St} (h : XK σ τ) {w : Nat → Int} (hX : XS σ w) : XS τ w := ⟨h.std hX.1, h.sr (by decide) hX.2.1, hX.2.2⟩
/-- it answers v; of the state, scratch rows alone have changed -/
def PX (v : Int) (σ : St) : Option MV → St → Prop := fun r σ' => r = some (vi v) ∧ XK σ σ'
theorem PX_i {σ τ : St} {a b : Int} (h : a = b) (h2 : XK σ τ) : PX b σ (some (vi a)) τ := ⟨by rw [h], h2⟩
theorem PaddUp.k {σ : St} {w : Nat → Int} {r : Option MV} {τ : St} (h : PaddUp σ w r τ) (hz : Z0 σ) : XK σ τ ∧ RO τ w ∧ XS τ w := by
  obtain ⟨-, e, f, h, rfl, hR, hX⟩ := h
  refine ⟨?_, hR, hX⟩
  have z := hR.z
  exact (((XK.rf hz).onA (by decide) (Or.inl (by decide))).onA (by decide) (Or.inr z.1)).onA (by decide) (Or.inr z.2)
def fitsA (w : Nat → Int) (what : Int) : Int :=
  if what = 0 then cntF w (w 0) (w 0 + w 1) (2 ^ nS w)
  else if bestF w (w 0) (w 0 + w 1) (2 ^ nS w) = -5 ∨ what = 1 then bestF w (w 0) (w 0 + w 1) (2 ^ nS w)
  else if what = 2 then csum w (bestF w (w 0) (w 0 + w 1) (2 ^ nS w)).toNat else psum w (bestF w (w 0) (w 0 + w 1) (2 ^ nS w)).toNat
theorem c_fits (g : Gl) (σ : St) (w : Nat → Int) (hX : XS σ w) (hz : Z0 σ) (what : Int) (hi : inR what) : Ct g mX11_fits 3 0 0 [vq (some 8), vi what] σ (PX (if 0 ≤ what ∧ what ≤ 3 then fitsA w what else -2) σ) := by
  refine Ct.of (by decide +kernel) (Nat.le_of_ble_eq_true rfl) ?_
  have hS := hX.1
  have hb := bestF_b w (w 0) (w 0 + w 1) (2 ^ nS w)
  have hP := two_nS hX.2.2
  refine V_iload_n dX11_fits_0 rfl ?_
  refine V_iconst dX11_fits_1 ?_
  refine V_iconst dX11_fits_2 ?_
  refine V_callS dX11_fits_3 (c_isIn g _ _ _ _ (by omega) (by omega) (by omega)) ss_RX11_107 rfl ⟨⟨by decide, by decide⟩, ⟨by decide, by decide⟩⟩ (Nat.le_of_ble_eq_true rfl) (fun r3 s3 p3 => ?_)
  obtain ⟨rfl, rfl⟩ := p3
  refine V_ifneB (tgt := 12) dX11_fits_6 (by decide) (fun br6 => ?_) (fun br6 => ?_)
  · refine V_aload_n dX11_fits_12 rfl ?_
    refine V_getfr dX11_fits_13 sf_RX11_45 (by decide) (sh hS rfl) (rf hS rfl) ?_
    refine V_aload_n dX11_fits_16 rfl ?_
    refine V_getfr dX11_fits_17 sf_RX11_12 (by decide) (sh hS rfl) (rf hS rfl) ?_
    refine V_callV dX11_fits_20 (c_addUp g _ w hX hz) sv_RX11_169 (sh hS rfl) rfl ⟨⟨by decide, by decide⟩, ⟨by decide, by decide⟩⟩ (Nat.le_of_ble_eq_true rfl) (fun r20 s20 p20 => ?_)
    obtain ⟨rfl, hp⟩ : r20 = none ∧ PaddUp σ w r20 s20 := ⟨p20.1, p20⟩
    obtain ⟨hK, hR, hX2⟩ := hp.k hz
    have hS := hX2.1
    have t0 := hX2.r0
    have t1 := hX2.r1
    refine V_aload_n dX11_fits_23 rfl ?_
    refine V_getfr dX11_fits_24 sf_RX11_12 (by decide) (sh hS rfl) (rf hS rfl) ?_
    refine V_getfr dX11_fits_27 sf_RX11_114 (by decide) (sh hS rfl) (rf hS rfl) ?_
    refine V_iconst dX11_fits_30 ?_
    refine V_iald dX11_fits_31 (sh hS rfl) (by omega) ?_
    refine V_val t0.1 ?_
    refine V_istore_n dX11_fits_32 (by decide) rfl ?_
    refine V_iload_n dX11_fits_33 rfl ?_
    refine V_aload_n dX11_fits_34 rfl ?_
    refine V_getfr dX11_fits_35 sf_RX11_12 (by decide) (sh hS rfl) (rf hS rfl) ?_
    refine V_getfr dX11_fits_38 sf_RX11_114 (by decide) (sh hS rfl) (rf hS rfl) ?_
    refine V_iconst dX11_fits_41 ?_
    refine V_iald dX11_fits_42 (sh hS rfl) (by omega) ?_
    refine V_val t1.1 ?_
    refine V_iadd dX11_fits_43 ?_
    refine V_istore_n dX11_fits_44 (by decide) rfl ?_
    refine V_iload_n dX11_fits_45 rfl ?_
    refine V_ifne (tgt := 59) dX11_fits_46 (by decide) (by omega) (fun br46 => ?_) (fun br46 => ?_)
    · refine V_aload_n dX11_fits_59 rfl ?_
      refine V_getfr dX11_fits_60 sf_RX11_45 (by decide) (sh hS rfl) (rf hS rfl) ?_
      refine V_iload_n dX11_fits_63 rfl ?_
      refine V_iload_n dX11_fits_64 rfl ?_
      refine V_callV dX11_fits_65 (c_bestBetween g _ w hX2 hR _ _ (by omega) (by omega)) sv_RX11_176 (sh hS rfl) rfl ⟨⟨by decide, by decide⟩, ⟨by decide, by decide⟩⟩ (Nat.le_of_ble_eq_true rfl) (fun r65 s65 p65 => ?_)
      obtain ⟨rfl, rfl⟩ := p65
      refine V_istore dX11_fits_68 (by decide) rfl ?_
      refine V_iload dX11_fits_70 rfl ?_
      refine V_bipush dX11_fits_72 (by decide) ?_
      refine V_icmpeq (tgt := 82) dX11_fits_74 (by decide) (by omega) (by omega) (fun br74 => ?_) (fun br74 => ?_)
      · refine V_iload dX11_fits_82 rfl ?_
        refine V_iret dX11_fits_84 rfl (Nat.le_refl _) (Nat.le_refl _) ?_
        exact PX_i (by rw [if_pos (by omega)]; unfold fitsA; rw [if_neg (by omega), if_pos (by omega)]) hK
      · refine V_iload_n dX11_fits_77 rfl ?_
        refine V_iconst dX11_fits_78 ?_
        refine V_icmpne (tgt := 85) dX11_fits_79 (by decide) (by omega) (by omega) (fun br79 => ?_) (fun br79 => ?_)
        · have hq := hR.2 (bestF w (w 0) (w 0 + w 1) (2 ^ nS w)).toNat (by omega)
          refine V_iload_n dX11_fits_85 rfl ?_
          refine V_iconst dX11_fits_86 ?_
          refine V_icmpne (tgt := 103) dX11_fits_87 (by decide) (by omega) (by omega) (fun br87 => ?_) (fun br87 => ?_)
          · refine V_aload_n dX11_fits_103 rfl ?_
            refine V_getfr dX11_fits_104 sf_RX11_45 (by decide) (sh hS rfl) (rf hS rfl) ?_
            refine V_getfr dX11_fits_107 sf_RX11_181 (by decide) (sh hS rfl) (rf hS rfl) ?_
            refine V_iload dX11_fits_110 rfl ?_
            refine V_iald dX11_fits_112 (sh hS rfl) (by omega) ?_
            refine V_iret dX11_fits_113 rfl (Nat.le_refl _) (Nat.le_refl _) ?_
            first | exact PX_i (by rw [if_pos (by omega)]; unfold fitsA; rw [if_neg (by omega), if_neg (by omega), if_pos (by omega), hq.1]) hK | exact PX_i (by rw [if_pos (by omega)]; unfold fitsA; rw [if_neg (by omega), if_neg (by omega), if_neg (by omega), hq.2]) hK
          · refine V_aload_n dX11_fits_90 rfl ?_
            refine V_getfr dX11_fits_91 sf_RX11_45 (by decide) (sh hS rfl) (rf hS rfl) ?_
            refine V_getfr dX11_fits_94 sf_RX11_179 (by decide) (sh hS rfl) (rf hS rfl) ?_
            refine V_iload dX11_fits_97 rfl ?_
            refine V_iald dX11_fits_99 (sh hS rfl) (by omega) ?_
            refine V_goto (tgt := 113) dX11_fits_100 (by decide) ?_
            refine V_iret dX11_fits_113 rfl (Nat.le_refl _) (Nat.le_refl _) ?_
            first | exact PX_i (by rw [if_pos (by omega)]; unfold fitsA; rw [if_neg (by omega), if_neg (by omega), if_pos (by omega), hq.1]) hK | exact PX_i (by rw [if_pos (by omega)]; unfold fitsA; rw [if_neg (by omega), if_neg (by omega), if_neg (by omega), hq.2]) hK
        · refine V_iload dX11_fits_82 rfl ?_
          refine V_iret dX11_fits_84 rfl (Nat.le_refl _) (Nat.le_refl _) ?_
          exact PX_i (by rw [if_pos (by omega)]; unfold fitsA; rw [if_neg (by omega), if_pos (by omega)]) hK
    · refine V_aload_n dX11_fits_49 rfl ?_
      refine V_getfr dX11_fits_50 sf_RX11_45 (by decide) (sh hS rfl) (rf hS rfl) ?_
      refine V_iload_n dX11_fits_53 rfl ?_
      refine V_iload_n dX11_fits_54 rfl ?_
      refine V_callV dX11_fits_55 (c_howMany g _ w hX2 hR _ _ (by omega) (by omega)) sv_RX11_173 (sh hS rfl) rfl ⟨⟨by decide, by decide⟩, ⟨by decide, by decide⟩⟩ (Nat.le_of_ble_eq_true rfl) (fun r55 s55 p55 => ?_)
      obtain ⟨rfl, rfl⟩ := p55
      refine V_iret dX11_fits_58 rfl (Nat.le_refl _) (Nat.le_refl _) ?_
      exact PX_i (by rw [if_pos (by omega)]; unfold fitsA; rw [if_pos (by omega)]) hK
  · refine V_bipush dX11_fits_9 (by decide) ?_
    refine V_iret dX11_fits_11 rfl (Nat.le_refl _) (Nat.le_refl _) ?_
    exact PX_i (by rw [if_neg (by omega)]) (XK.rf hz)
theorem c_sums (g : Gl) (σ : St) (w : Nat → Int) (hX : XS σ w) (hz : Z0 σ) (sum : Int) (hi : inR sum) : Ct g mX11_sums 3 0 0 [vq (some 8), vi sum] σ (PX (if 0 ≤ sum ∧ sum ≤ 999 then cntF w sum sum (2 ^ nS w) else -2) σ) := by
  refine Ct.of (by decide +kernel) (Nat.le_of_ble_eq_true rfl) ?_
  have hS := hX.1
  refine V_iload_n dX11_sums_0 rfl ?_
  refine V_iconst dX11_sums_1 ?_
  refine V_sipush dX11_sums_2 (by decide) ?_
  refine V_callS dX11_sums_5 (c_isIn g _ _ _ _ (by omega) (by omega) (by omega)) ss_RX11_107 rfl ⟨⟨by decide, by decide⟩, ⟨by decide, by decide⟩⟩ (Nat.le_of_ble_eq_true rfl) (fun r5 s5 p5 => ?_)
  obtain ⟨rfl, rfl⟩ := p5
  refine V_ifneB (tgt := 14) dX11_sums_8 (by decide) (fun br8 => ?_) (fun br8 => ?_)
  · refine V_aload_n dX11_sums_14 rfl ?_
    refine V_getfr dX11_sums_15 sf_RX11_45 (by decide) (sh hS rfl) (rf hS rfl) ?_
    refine V_aload_n dX11_sums_18 rfl ?_
    refine V_getfr dX11_sums_19 sf_RX11_12 (by decide) (sh hS rfl) (rf hS rfl) ?_
    refine V_callV dX11_sums_22 (c_addUp g _ w hX hz) sv_RX11_169 (sh hS rfl) rfl ⟨⟨by decide, by decide⟩, ⟨by decide, by decide⟩⟩ (Nat.le_of_ble_eq_true rfl) (fun r22 s22 p22 => ?_)
    obtain ⟨rfl, hp⟩ : r22 = none ∧ PaddUp σ w r22 s22 := ⟨p22.1, p22⟩
    obtain ⟨hK, hR, hX2⟩ := hp.k hz
    have hS := hX2.1
    refine V_aload_n dX11_sums_25 rfl ?_
    refine V_getfr dX11_sums_26 sf_RX11_45 (by decide) (sh hS rfl) (rf hS rfl) ?_
    refine V_iload_n dX11_sums_29 rfl ?_
    refine V_iload_n dX11_sums_30 rfl ?_
    refine V_callV dX11_sums_31 (c_howMany g _ w hX2 hR _ _ (by omega) (by omega)) sv_RX11_173 (sh hS rfl) rfl ⟨⟨by decide, by decide⟩, ⟨by decide, by decide⟩⟩ (Nat.le_of_ble_eq_true rfl) (fun r31 s31 p31 => ?_)
    obtain ⟨rfl, rfl⟩ := p31
    refine V_iret dX11_sums_34 rfl (Nat.le_refl _) (Nat.le_refl _) ?_
    exact PX_i (by rw [if_pos (by omega)]) hK
  · refine V_bipush dX11_sums_11 (by decide) ?_
    refine V_iret dX11_sums_13 rfl (Nat.le_refl _) (Nat.le_refl _) ?_
    exact PX_i (by rw [if_neg (by omega)]) (XK.rf hz)
theorem c_nearest (g : Gl) (σ : St) (w : Nat → Int) (hX : XS σ w) (hz : Z0 σ) (sum : Int) (hi : inR sum) : Ct g mX11_nearest 3 0 0 [vq (some 8), vi sum] σ (PX (if 0 ≤ sum ∧ sum ≤ 999 then (if w 4 = 0 then -3 else nearF w sum (2 ^ nS w)) else -2) σ) := by
  refine Ct.of (by decide +kernel) (Nat.le_of_ble_eq_true rfl) ?_
  have hS := hX.1
  have n4 := hX.n4
  have hN := wf_n hX.2.2
  refine V_iload_n dX11_nearest_0 rfl ?_
  refine V_iconst dX11_nearest_1 ?_
  refine V_sipush dX11_nearest_2 (by decide) ?_
  refine V_callS dX11_nearest_5 (c_isIn g _ _ _ _ (by omega) (by omega) (by omega)) ss_RX11_107 rfl ⟨⟨by decide, by decide⟩, ⟨by decide, by decide⟩⟩ (Nat.le_of_ble_eq_true rfl) (fun r5 s5 p5 => ?_)
  obtain ⟨rfl, rfl⟩ := p5
  refine V_ifneB (tgt := 14) dX11_nearest_8 (by decide) (fun br8 => ?_) (fun br8 => ?_)
  · refine V_aload_n dX11_nearest_14 rfl ?_
    refine V_getfr dX11_nearest_15 sf_RX11_12 (by decide) (sh hS rfl) (rf hS rfl) ?_
    refine V_getfi dX11_nearest_18 sf_RX11_118 rfl (sh hS rfl) ?_
    refine V_ifne (tgt := 27) dX11_nearest_21 (by decide) (by omega) (fun br21 => ?_) (fun br21 => ?_)
    · refine V_aload_n dX11_nearest_27 rfl ?_
      refine V_getfr dX11_nearest_28 sf_RX11_45 (by decide) (sh hS rfl) (rf hS rfl) ?_
      refine V_aload_n dX11_nearest_31 rfl ?_
      refine V_getfr dX11_nearest_32 sf_RX11_12 (by decide) (sh hS rfl) (rf hS rfl) ?_
      refine V_callV dX11_nearest_35 (c_addUp g _ w hX hz) sv_RX11_169 (sh hS rfl) rfl ⟨⟨by decide, by decide⟩, ⟨by decide, by decide⟩⟩ (Nat.le_of_ble_eq_true rfl) (fun r35 s35 p35 => ?_)
      obtain ⟨rfl, hp⟩ : r35 = none ∧ PaddUp σ w r35 s35 := ⟨p35.1, p35⟩
      obtain ⟨hK, hR, hX2⟩ := hp.k hz
      have hS := hX2.1
      refine V_aload_n dX11_nearest_38 rfl ?_
      refine V_getfr dX11_nearest_39 sf_RX11_45 (by decide) (sh hS rfl) (rf hS rfl) ?_
      refine V_iload_n dX11_nearest_42 rfl ?_
      refine V_callV dX11_nearest_43 (c_closestTo g _ w hX2 hR _ (by omega) (by omega)) sv_RX11_184 (sh hS rfl) rfl ⟨⟨by decide, by decide⟩, ⟨by decide, by decide⟩⟩ (Nat.le_of_ble_eq_true rfl) (fun r43 s43 p43 => ?_)
      obtain ⟨rfl, rfl⟩ := p43
      refine V_iret dX11_nearest_46 rfl (Nat.le_refl _) (Nat.le_refl _) ?_
      exact PX_i (by rw [if_pos (by omega), if_neg (by omega)]) hK
    · refine V_bipush dX11_nearest_24 (by decide) ?_
      refine V_iret dX11_nearest_26 rfl (Nat.le_refl _) (Nat.le_refl _) ?_
      exact PX_i (by rw [if_pos (by omega), if_pos (by omega)]) (XK.rf hz)
  · refine V_bipush dX11_nearest_11 (by decide) ?_
    refine V_iret dX11_nearest_13 rfl (Nat.le_refl _) (Nat.le_refl _) ?_
    exact PX_i (by rw [if_neg (by omega)]) (XK.rf hz)