theorem l64 {a : Int} (h : inR a) : ((iI a).toInt64).toInt = a := by rw [Int32.toInt_toInt64, iI_toInt h]
theorem l64a {a b : Int} (ha : inR a) (hb : inR b) : ((iI a).toInt64 + (iI b).toInt64).toInt = a + b := by
  rw [Int64.toInt_add, l64 ha, l64 hb]
  unfold inR at ha hb
  rw [Int.bmod_def]
  have e : ((2 ^ 64 : Nat) : Int) = 18446744073709551616 := rfl
  rw [e]
  split <;> omega
theorem lgc {a b z : Int} (ha : inR a) (hb : inR b) (hz : inR z) : inR (lg_cmp ((iI a).toInt64 + (iI b).toInt64) (iI z).toInt64).toInt ∧ (0 < (lg_cmp ((iI a).toInt64 + (iI b).toInt64) (iI z).toInt64).toInt ↔ z < a + b) := by
  refine ⟨lcmp_b _ _, ?_⟩
  have h := lg_cmp_gt ((iI a).toInt64 + (iI b).toInt64) (iI z).toInt64
  rw [Int32.lt_iff_toInt_lt, Int64.lt_iff_toInt_lt, l64a ha hb, l64 hz] at h
  exact h
theorem cpy_0 {f g : Nat → Int64} {sp dp : Nat} : va_cpy f g sp dp 0 = g := funext fun k => if_neg (by omega)
theorem cpy_s {f g : Nat → Int64} {sp dp n : Nat} : va_cpy f g sp dp (n + 1) = up1 (va_cpy f g sp dp n) (dp + n) (f (sp + n)) := funext fun k => by
  show (if _ then _ else _) = if k = dp + n then _ else (if _ then _ else _)
  by_cases h : k = dp + n
  · subst h
    rw [if_pos (by omega), if_pos rfl]
    congr 1; omega
  · rw [if_neg h]
    by_cases h2 : dp ≤ k ∧ k < dp + n
    · rw [if_pos h2, if_pos (by omega)]
    · rw [if_neg h2, if_neg (by omega)]
theorem MS.onL {σ τ : St} (h : MS σ τ) (f : Nat → Int64) : MS σ (setL τ 92 f) := ⟨h.1, fun a p => (up1_ne _ p _).trans (h.2.1 a p), h.2.2.1, h.2.2.2⟩
theorem c_mMove (g : Gl) (σ : St) (A : Ab) (N : Nat) (hM : MR σ A) (hA : AI A N) (p i q j n : Int) (h1 : inR p) (h2 : inR i) (h3 : inR q) (h4 : inR j) (h5 : inR n) : Ct g mX12_move 2 0 0 [vq (some 77), vi p, vi i, vi q, vi j, vi n] σ (PM (moveV A p i q j n) (moveN A p i q j n) σ) := by
  refine Ct.of (by decide +kernel) (Nat.le_of_ble_eq_true rfl) ?_
  have hM0 := hM
  have hS := hM.1
  have m87 := hM.2.2.2.2.1.1
  have m89 := hM.2.2.2.2.1.2.2.1
  have no : ∀ v, ¬ okMv A p i q j n → v = moveV A p i q j n → PM (moveV A p i q j n) (moveN A p i q j n) σ (some (vi v)) σ := fun v z e => by
    unfold moveN
    rw [if_neg z, ← e]
    exact PM_i rfl hM0 (FC.rf _)
  by_cases hpq : (0 ≤ p ∧ p ≤ 5) ∧ (0 ≤ q ∧ q ≤ 5)
  · obtain ⟨hp, hq⟩ := hpq
    have bp := hA.2.2.2.2.2.2 p.toNat (by omega)
    have bq := hA.2.2.2.2.2.2 q.toNat (by omega)
    have eV : moveV A p i q j n = if aP A p.toNat = 0 ∨ aP A q.toNat = 0 then -11 else if aP A p.toNat < 4 ∨ aP A q.toNat ≠ aP A p.toNat then -13 else if (0 ≤ n ∧ 0 ≤ i ∧ 0 ≤ j) ∧ i + n ≤ aZ A p.toNat ∧ j + n ≤ aZ A q.toNat then n else -12 := if_pos ⟨hp, hq⟩
    have c1 := lgc (z := aZ A p.toNat) h2 h5 (by omega)
    have c2 := lgc (z := aZ A q.toNat) h4 h5 (by omega)
    have two : ∀ (m k : Nat) (τ : St), okMv A p i q j n → (k : Int) + m = n → MR τ (xN A (va_cpy (aX A) (aX A) (30 * p.toNat + i.toNat) (30 * q.toNat + j.toNat) k)) → FC σ τ → (∀ t : Nat, (t : Int) < n → gL τ 92 t = aX A (30 * p.toNat + i.toNat + t)) →
        V g mX12_move (rmD 2 0 0) (QM g 0 0 (PM (moveV A p i q j n) (moveN A p i q j n) σ)) 157 [some (vq (some 77)), none, none, some (vi q), some (vi j), some (vi n), some (vi (k : Int))] [] 0 0 τ := by
      intro m
      induction m with
      | zero =>
        intro k τ hok hk hMt hF h92
        refine V_iload dX12_move_157 rfl ?_
        refine V_iload dX12_move_159 rfl ?_
        refine V_icmpge (tgt := 192) dX12_move_161 (by decide) (by omega) (by omega) (fun br161 => ?_) (fun br161 => ?_)
        · refine V_iload dX12_move_192 rfl ?_
          refine V_iret dX12_move_194 rfl (Nat.le_refl _) (Nat.le_refl _) ?_
          unfold moveN
          rw [if_pos hok, eV, if_neg (by omega), if_neg (by omega), if_pos ⟨⟨by omega, by omega, by omega⟩, by omega, by omega⟩, show n.toNat = k by omega]
          exact PM_i rfl hMt hF
        · omega
      | succ m ih =>
        intro k τ hok hk hMt hF h92
        have hS := hMt.1
        have e92 := h92 k (by omega)
        refine V_iload dX12_move_157 rfl ?_
        refine V_iload dX12_move_159 rfl ?_
        refine V_icmpge (tgt := 192) dX12_move_161 (by decide) (by omega) (by omega) (fun br161 => ?_) (fun br161 => ?_)
        · omega
        · refine V_aload_n dX12_move_164 rfl ?_
          refine V_getfr dX12_move_165 sf_RX12_51 (by decide) (sh hS rfl) (rf hS rfl) ?_
          refine V_bipush dX12_move_168 (by decide) ?_
          refine V_iload_n dX12_move_170 rfl ?_
          refine V_imul dX12_move_171 ?_
          refine V_iload dX12_move_172 rfl ?_
          refine V_iadd dX12_move_174 ?_
          refine V_iload dX12_move_175 rfl ?_
          refine V_iadd dX12_move_177 ?_
          refine V_val (show (30 : Int) * q + j + (k : Int) = ((30 * q.toNat + j.toNat + k : Nat) : Int) by omega) ?_
          refine V_aload_n dX12_move_178 rfl ?_
          refine V_getfr dX12_move_179 sf_RX12_55 (by decide) (sh hS rfl) (rf hS rfl) ?_
          refine V_iload dX12_move_182 rfl ?_
          refine V_lald dX12_move_184 (sh hS rfl) (by omega) ?_
          rw [Int.toNat_natCast, e92]
          refine V_last dX12_move_185 (sh hS rfl) (by omega) ?_
          refine V_iinc dX12_move_186 rfl (by decide) rfl ?_
          refine V_goto (tgt := 157) dX12_move_189 (by decide) ?_
          refine V_mask [true, false, false, true, true, true, true] ?_
          rw [Int.toNat_natCast]
          refine ih (k + 1) _ hok (by omega) ?_ (hF.onL _ (by decide)) (fun t ht => h92 t ht)
          have q1 := hMt.lays (30 * q.toNat + j.toNat + k) (aX A (30 * p.toNat + i.toNat + k))
          have q2 : aX (xN A (va_cpy (aX A) (aX A) (30 * p.toNat + i.toNat) (30 * q.toNat + j.toNat) k)) = va_cpy (aX A) (aX A) (30 * p.toNat + i.toNat) (30 * q.toNat + j.toNat) k := rfl
          rw [q2, ← cpy_s] at q1
          exact q1
    have one : ∀ (m k : Nat) (τ : St), okMv A p i q j n → (k : Int) + m = n → MS σ τ → (∀ t : Nat, t < k → gL τ 92 t = aX A (30 * p.toNat + i.toNat + t)) →
        V g mX12_move (rmD 2 0 0) (QM g 0 0 (PM (moveV A p i q j n) (moveN A p i q j n) σ)) 120 [some (vq (some 77)), some (vi p), some (vi i), some (vi q), some (vi j), some (vi n), some (vi (k : Int))] [] 0 0 τ := by
      intro m
      induction m with
      | zero =>
        intro k τ hok hk hF h92
        refine V_iload dX12_move_120 rfl ?_
        refine V_iload dX12_move_122 rfl ?_
        refine V_icmpge (tgt := 154) dX12_move_124 (by decide) (by omega) (by omega) (fun br124 => ?_) (fun br124 => ?_)
        · refine V_iconst dX12_move_154 ?_
          refine V_istore dX12_move_155 (by decide) rfl ?_
          refine V_mask [true, false, false, true, true, true, true] ?_
          exact two n.toNat 0 τ hok (by omega) (by rw [cpy_0]; exact hF.mr hM0) hF.fc (fun t ht => h92 t (by omega))
        · omega
      | succ m ih =>
        intro k τ hok hk hF h92
        have hMt := hF.mr hM0
        have hS := hMt.1
        have e91 : gL τ 91 (30 * p.toNat + i.toNat + k) = aX A (30 * p.toNat + i.toNat + k) := congrFun hMt.2.2.2.2.2 _
        refine V_iload dX12_move_120 rfl ?_
        refine V_iload dX12_move_122 rfl ?_
        refine V_icmpge (tgt := 154) dX12_move_124 (by decide) (by omega) (by omega) (fun br124 => ?_) (fun br124 => ?_)
        · omega
        · refine V_aload_n dX12_move_127 rfl ?_
          refine V_getfr dX12_move_128 sf_RX12_55 (by decide) (sh hS rfl) (rf hS rfl) ?_
          refine V_iload dX12_move_131 rfl ?_
          refine V_aload_n dX12_move_133 rfl ?_
          refine V_getfr dX12_move_134 sf_RX12_51 (by decide) (sh hS rfl) (rf hS rfl) ?_
          refine V_bipush dX12_move_137 (by decide) ?_
          refine V_iload_n dX12_move_139 rfl ?_
          refine V_imul dX12_move_140 ?_
          refine V_iload_n dX12_move_141 rfl ?_
          refine V_iadd dX12_move_142 ?_
          refine V_iload dX12_move_143 rfl ?_
          refine V_iadd dX12_move_145 ?_
          refine V_val (show (30 : Int) * p + i + (k : Int) = ((30 * p.toNat + i.toNat + k : Nat) : Int) by omega) ?_
          refine V_lald dX12_move_146 (sh hS rfl) (by omega) ?_
          rw [Int.toNat_natCast, e91]
          refine V_last dX12_move_147 (sh hS rfl) (by omega) ?_
          refine V_iinc dX12_move_148 rfl (by decide) rfl ?_
          refine V_goto (tgt := 120) dX12_move_151 (by decide) ?_
          refine V_mask [true, true, true, true, true, true, true] ?_
          rw [Int.toNat_natCast]
          refine ih (k + 1) _ hok (by omega) (hF.onL _) (fun t ht => ?_)
          have e : gL (setL τ 92 (up1 (gL τ 92) k (aX A (30 * p.toNat + i.toNat + k)))) 92 = up1 (gL τ 92) k (aX A (30 * p.toNat + i.toNat + k)) := (gL_setL _ _ _ _).trans (if_pos rfl)
          rw [e]
          by_cases z : t = k
          · subst z; exact up1_is _ _ _
          · rw [up1_ne _ z]; exact h92 t (by omega)
    refine V_iload_n dX12_move_0 rfl ?_
    refine V_callS dX12_move_1 (c_mIsPeg g _ _ (by omega)) ss_RX12_253 rfl ⟨⟨by decide, by decide⟩, ⟨by decide, by decide⟩⟩ (Nat.le_of_ble_eq_true rfl) (fun r1 s1 p1 => ?_)
    obtain ⟨rfl, rfl⟩ := p1
    refine V_ifeqB (tgt := 14) dX12_move_4 (by decide) (fun br4 => ?_) (fun br4 => ?_)
    · exact absurd hp br4
    · refine V_iload_n dX12_move_7 rfl ?_
      refine V_callS dX12_move_8 (c_mIsPeg g _ _ (by omega)) ss_RX12_253 rfl ⟨⟨by decide, by decide⟩, ⟨by decide, by decide⟩⟩ (Nat.le_of_ble_eq_true rfl) (fun r8 s8 p8 => ?_)
      obtain ⟨rfl, rfl⟩ := p8
      refine V_ifneB (tgt := 16) dX12_move_11 (by decide) (fun br11 => ?_) (fun br11 => ?_)
      · refine V_aload_n dX12_move_16 rfl ?_
        refine V_getfr dX12_move_17 sf_RX12_39 (by decide) (sh hS rfl) (rf hS rfl) ?_
        refine V_iload_n dX12_move_20 rfl ?_
        refine V_iald dX12_move_21 (sh hS rfl) (by omega) ?_
        refine V_val (mw m87 (k := p.toNat) rfl) ?_
        refine V_ifeq (tgt := 34) dX12_move_22 (by decide) (by omega) (fun br22 => ?_) (fun br22 => ?_)
        · refine V_bipush dX12_move_34 (by decide) ?_
          refine V_iret dX12_move_36 rfl (Nat.le_refl _) (Nat.le_refl _) ?_
          exact no _ (fun z => by omega) (by rw [eV, if_pos (by omega)])
        · refine V_aload_n dX12_move_25 rfl ?_
          refine V_getfr dX12_move_26 sf_RX12_39 (by decide) (sh hS rfl) (rf hS rfl) ?_
          refine V_iload_n dX12_move_29 rfl ?_
          refine V_iald dX12_move_30 (sh hS rfl) (by omega) ?_
          refine V_val (mw m87 (k := q.toNat) rfl) ?_
          refine V_ifne (tgt := 37) dX12_move_31 (by decide) (by omega) (fun br31 => ?_) (fun br31 => ?_)
          · refine V_aload_n dX12_move_37 rfl ?_
            refine V_getfr dX12_move_38 sf_RX12_39 (by decide) (sh hS rfl) (rf hS rfl) ?_
            refine V_iload_n dX12_move_41 rfl ?_
            refine V_iald dX12_move_42 (sh hS rfl) (by omega) ?_
            refine V_val (mw m87 (k := p.toNat) rfl) ?_
            refine V_iconst dX12_move_43 ?_
            refine V_icmplt (tgt := 62) dX12_move_44 (by decide) (by omega) (by omega) (fun br44 => ?_) (fun br44 => ?_)
            · refine V_bipush dX12_move_62 (by decide) ?_
              refine V_iret dX12_move_64 rfl (Nat.le_refl _) (Nat.le_refl _) ?_
              exact no _ (fun z => by omega) (by rw [eV, if_neg (by omega), if_pos (by omega)])
            · refine V_aload_n dX12_move_47 rfl ?_
              refine V_getfr dX12_move_48 sf_RX12_39 (by decide) (sh hS rfl) (rf hS rfl) ?_
              refine V_iload_n dX12_move_51 rfl ?_
              refine V_iald dX12_move_52 (sh hS rfl) (by omega) ?_
              refine V_val (mw m87 (k := q.toNat) rfl) ?_
              refine V_aload_n dX12_move_53 rfl ?_
              refine V_getfr dX12_move_54 sf_RX12_39 (by decide) (sh hS rfl) (rf hS rfl) ?_
              refine V_iload_n dX12_move_57 rfl ?_
              refine V_iald dX12_move_58 (sh hS rfl) (by omega) ?_
              refine V_val (mw m87 (k := p.toNat) rfl) ?_
              refine V_icmpeq (tgt := 65) dX12_move_59 (by decide) (by omega) (by omega) (fun br59 => ?_) (fun br59 => ?_)
              · refine V_iload dX12_move_65 rfl ?_
                refine V_iflt (tgt := 114) dX12_move_67 (by decide) (by omega) (fun br67 => ?_) (fun br67 => ?_)
                · refine V_bipush dX12_move_114 (by decide) ?_
                  refine V_iret dX12_move_116 rfl (Nat.le_refl _) (Nat.le_refl _) ?_
                  have hn : ¬ ((0 ≤ n ∧ 0 ≤ i ∧ 0 ≤ j) ∧ i + n ≤ aZ A p.toNat ∧ j + n ≤ aZ A q.toNat) := fun z => by
                    first
                      | omega
                      | (have := c1.2.mp br93; omega)
                      | (have := c2.2.mp (by omega); omega)
                  exact no _ (fun z => hn z.2.2) (by rw [eV, if_neg (by omega), if_neg (by omega), if_neg hn])
                · refine V_iload_n dX12_move_70 rfl ?_
                  refine V_iflt (tgt := 114) dX12_move_71 (by decide) (by omega) (fun br71 => ?_) (fun br71 => ?_)
                  · refine V_bipush dX12_move_114 (by decide) ?_
                    refine V_iret dX12_move_116 rfl (Nat.le_refl _) (Nat.le_refl _) ?_
                    have hn : ¬ ((0 ≤ n ∧ 0 ≤ i ∧ 0 ≤ j) ∧ i + n ≤ aZ A p.toNat ∧ j + n ≤ aZ A q.toNat) := fun z => by
                      first
                        | omega
                        | (have := c1.2.mp br93; omega)
                        | (have := c2.2.mp (by omega); omega)
                    exact no _ (fun z => hn z.2.2) (by rw [eV, if_neg (by omega), if_neg (by omega), if_neg hn])
                  · refine V_iload dX12_move_74 rfl ?_
                    refine V_iflt (tgt := 114) dX12_move_76 (by decide) (by omega) (fun br76 => ?_) (fun br76 => ?_)
                    · refine V_bipush dX12_move_114 (by decide) ?_
                      refine V_iret dX12_move_116 rfl (Nat.le_refl _) (Nat.le_refl _) ?_
                      have hn : ¬ ((0 ≤ n ∧ 0 ≤ i ∧ 0 ≤ j) ∧ i + n ≤ aZ A p.toNat ∧ j + n ≤ aZ A q.toNat) := fun z => by
                        first
                          | omega
                          | (have := c1.2.mp br93; omega)
                          | (have := c2.2.mp (by omega); omega)
                      exact no _ (fun z => hn z.2.2) (by rw [eV, if_neg (by omega), if_neg (by omega), if_neg hn])
                    · refine V_iload_n dX12_move_79 rfl ?_
                      refine V_i2l dX12_move_80 ?_
                      refine V_iload dX12_move_81 rfl ?_
                      refine V_i2l dX12_move_83 ?_
                      refine V_ladd dX12_move_84 ?_
                      refine V_aload_n dX12_move_85 rfl ?_
                      refine V_getfr dX12_move_86 sf_RX12_45 (by decide) (sh hS rfl) (rf hS rfl) ?_
                      refine V_iload_n dX12_move_89 rfl ?_
                      refine V_iald dX12_move_90 (sh hS rfl) (by omega) ?_
                      refine V_val (mw m89 (k := p.toNat) rfl) ?_
                      refine V_i2l dX12_move_91 ?_
                      refine V_lcmp dX12_move_92 ?_
                      refine V_ifgt (tgt := 114) dX12_move_93 (by decide) (by exact c1.1) (fun br93 => ?_) (fun br93 => ?_)
                      · refine V_bipush dX12_move_114 (by decide) ?_
                        refine V_iret dX12_move_116 rfl (Nat.le_refl _) (Nat.le_refl _) ?_
                        have hn : ¬ ((0 ≤ n ∧ 0 ≤ i ∧ 0 ≤ j) ∧ i + n ≤ aZ A p.toNat ∧ j + n ≤ aZ A q.toNat) := fun z => by
                          first
                            | omega
                            | (have := c1.2.mp br93; omega)
                            | (have := c2.2.mp (by omega); omega)
                        exact no _ (fun z => hn z.2.2) (by rw [eV, if_neg (by omega), if_neg (by omega), if_neg hn])
                      · refine V_iload dX12_move_96 rfl ?_
                        refine V_i2l dX12_move_98 ?_
                        refine V_iload dX12_move_99 rfl ?_
                        refine V_i2l dX12_move_101 ?_
                        refine V_ladd dX12_move_102 ?_
                        refine V_aload_n dX12_move_103 rfl ?_
                        refine V_getfr dX12_move_104 sf_RX12_45 (by decide) (sh hS rfl) (rf hS rfl) ?_
                        refine V_iload_n dX12_move_107 rfl ?_
                        refine V_iald dX12_move_108 (sh hS rfl) (by omega) ?_
                        refine V_val (mw m89 (k := q.toNat) rfl) ?_
                        refine V_i2l dX12_move_109 ?_
                        refine V_lcmp dX12_move_110 ?_
                        refine V_ifle (tgt := 117) dX12_move_111 (by decide) (by exact c2.1) (fun br111 => ?_) (fun br111 => ?_)
                        · refine V_iconst dX12_move_117 ?_
                          refine V_istore dX12_move_118 (by decide) rfl ?_
                          refine V_mask [true, true, true, true, true, true, true] ?_
                          have hok : okMv A p i q j n := ⟨⟨hp, hq⟩, ⟨by omega, by omega⟩, ⟨by omega, by omega, by omega⟩, by
                              rcases Int.lt_or_le (aZ A p.toNat) (i + n) with z | z
                              · exact absurd (c1.2.mpr z) (by omega)
                              · exact z, by
                              rcases Int.lt_or_le (aZ A q.toNat) (j + n) with z | z
                              · exact absurd (c2.2.mpr z) (by omega)
                              · exact z⟩
                          exact one n.toNat 0 _ hok (by omega) (MS.rf _) (fun t ht => absurd ht (Nat.not_lt_zero t))
                        · refine V_bipush dX12_move_114 (by decide) ?_
                          refine V_iret dX12_move_116 rfl (Nat.le_refl _) (Nat.le_refl _) ?_
                          have hn : ¬ ((0 ≤ n ∧ 0 ≤ i ∧ 0 ≤ j) ∧ i + n ≤ aZ A p.toNat ∧ j + n ≤ aZ A q.toNat) := fun z => by
                            first
                              | omega
                              | (have := c1.2.mp br93; omega)
                              | (have := c2.2.mp (by omega); omega)
                          exact no _ (fun z => hn z.2.2) (by rw [eV, if_neg (by omega), if_neg (by omega), if_neg hn])
              · refine V_bipush dX12_move_62 (by decide) ?_
                refine V_iret dX12_move_64 rfl (Nat.le_refl _) (Nat.le_refl _) ?_
                exact no _ (fun z => by omega) (by rw [eV, if_neg (by omega), if_pos (by omega)])
          · refine V_bipush dX12_move_34 (by decide) ?_
            refine V_iret dX12_move_36 rfl (Nat.le_refl _) (Nat.le_refl _) ?_
            exact no _ (fun z => by omega) (by rw [eV, if_pos (by omega)])
      · exact absurd hq br11
  · refine V_iload_n dX12_move_0 rfl ?_
    refine V_callS dX12_move_1 (c_mIsPeg g _ _ (by omega)) ss_RX12_253 rfl ⟨⟨by decide, by decide⟩, ⟨by decide, by decide⟩⟩ (Nat.le_of_ble_eq_true rfl) (fun r1 s1 p1 => ?_)
    obtain ⟨rfl, rfl⟩ := p1
    refine V_ifeqB (tgt := 14) dX12_move_4 (by decide) (fun br4 => ?_) (fun br4 => ?_)
    · refine V_iconst dX12_move_14 ?_
      refine V_iret dX12_move_15 rfl (Nat.le_refl _) (Nat.le_refl _) ?_
      exact no _ (fun z => hpq z.1) (if_neg hpq).symm
    · refine V_iload_n dX12_move_7 rfl ?_
      refine V_callS dX12_move_8 (c_mIsPeg g _ _ (by omega)) ss_RX12_253 rfl ⟨⟨by decide, by decide⟩, ⟨by decide, by decide⟩⟩ (Nat.le_of_ble_eq_true rfl) (fun r8 s8 p8 => ?_)
      obtain ⟨rfl, rfl⟩ := p8
      refine V_ifneB (tgt := 16) dX12_move_11 (by decide) (fun br11 => ?_) (fun br11 => ?_)
      · exact absurd ⟨br4, br11⟩ hpq
      · refine V_iconst dX12_move_14 ?_
        refine V_iret dX12_move_15 rfl (Nat.le_refl _) (Nat.le_refl _) ?_
        exact no _ (fun z => hpq z.1) (if_neg hpq).symm