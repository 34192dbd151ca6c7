def adl (l x : Int) : Int := if l = x then 1 else 0
/-- the first statement that can't be done -/
def fuF (t : Nat → Int) (n : Int) : List Int → Int → Int → Int → Int
  | [], _, _, _ => -1
  | c :: r, s, h, b => if (s + adl (pk t n c) 115 ≤ 9 ∧ h + adl (pk t n c) 104 ≤ 6 ∧ b + adl (pk t n c) 98 ≤ 7) ∧ okT t n c then fuF t n r (s + adl (pk t n c) 115) (h + adl (pk t n c) 104) (b + adl (pk t n c) 98) else c
/-- a text's statements lie in the tape's rows -/
def RLs (σ : St) (t : Nat → Int) (n : Int) (P : List Int) : Prop := gG σ 20 5 = (P.length : Int) ∧ P.length ≤ 27 ∧ ∀ i, i < P.length → RW σ t n i (P.getD i 0) ∧ hmN (pk t n (P.getD i 0)) ≠ 0
theorem adl_b (l x : Int) : 0 ≤ adl l x ∧ adl l x ≤ 1 := by
  unfold adl
  split <;> omega
theorem hmN_p {l : Int} (h : hmN l ≠ 0) : l = 115 ∨ l = 104 ∨ l = 98 ∨ l = 103 ∨ l = 116 := by
  unfold hmN at h
  (repeat' split at h) <;> omega
theorem c_firstUndoable (g : Gl) (σ : St) (w : Nat → Int) (hX : XS σ w) (t : Nat → Int) (n : Int) (P : List Int) (hP : RLs σ t n P) : Ct g mX8_firstUndoable 3 0 0 [vq (some 20), vq (some 9)] σ (rP (vi (fuF t n P (w 4) (w 5) (w 6))) σ) := by
  refine Ct.of (by decide +kernel) (Nat.le_of_ble_eq_true rfl) ?_
  have hS := hX.1
  have n4 := hX.n4
  have n5 := hX.n5
  have n6 := hX.n6
  have hlen := hP.1
  have h27 := hP.2.1
  have loop : ∀ (m k : Nat) (s h b : Int), P.length - k < m → k ≤ P.length → (0 ≤ s ∧ s ≤ 9) → (0 ≤ h ∧ h ≤ 6) → (0 ≤ b ∧ b ≤ 7) →
      V g mX8_firstUndoable (rmD 3 0 0) (QM g 0 0 (rP (vi (fuF t n (P.drop k) s h b)) σ)) 19 [some (vq (some 20)), none, some (vi s), some (vi h), some (vi b), some (vi (k : Int)), none] [] 0 0 σ := by
    intro m
    induction m with
    | zero => intro k s h b hm; omega
    | succ m ih =>
      intro k s h b hm hk hs hh hb
      by_cases hq : k < P.length
      · obtain ⟨hw, hl⟩ := hP.2.2 k hq
        have hp := hmN_p hl
        obtain ⟨c, hc⟩ : ∃ c, c = P.getD k 0 := ⟨_, rfl⟩
        have dk : P.drop k = c :: P.drop (k + 1) := by
          rw [hc, List.drop_eq_getElem_cons hq, List.getD_eq_getElem?_getD, List.getElem?_eq_getElem hq]; rfl
        rw [← hc] at hw hl hp
        rw [dk]
        have a1 := adl_b (pk t n c) 115
        have a2 := adl_b (pk t n c) 104
        have a3 := adl_b (pk t n c) 98
        have mid : ∀ s' h' b' : Int, s' = s + adl (pk t n c) 115 → h' = h + adl (pk t n c) 104 → b' = b + adl (pk t n c) 98 →
            V g mX8_firstUndoable (rmD 3 0 0) (QM g 0 0 (rP (vi (fuF t n (c :: P.drop (k + 1)) s h b)) σ)) 90 [some (vq (some 20)), none, some (vi s'), some (vi h'), some (vi b'), some (vi (k : Int)), none] [] 0 0 σ := by
          intro s' h' b' es eh eb
          subst es; subst eh; subst eb
          refine V_iload_n dX8_firstUndoable_90 rfl ?_
          refine V_bipush dX8_firstUndoable_91 (by decide) ?_
          refine V_icmpgt (tgt := 113) dX8_firstUndoable_93 (by decide) (by omega) (by omega) (fun br93 => ?_) (fun br93 => ?_)
          · refine V_iconst dX8_firstUndoable_113 ?_
            refine V_istore dX8_firstUndoable_114 (by decide) rfl ?_
            refine V_iload dX8_firstUndoable_116 rfl ?_
            refine V_ifeq (tgt := 141) dX8_firstUndoable_118 (by decide) (by omega) (fun br118 => ?_) (fun br118 => ?_)
            · refine V_aload_n dX8_firstUndoable_141 rfl ?_
              refine V_getfr dX8_firstUndoable_142 sf_RX8_19 (by decide) (sh hS rfl) (rf hS rfl) ?_
              refine V_iload dX8_firstUndoable_145 rfl ?_
              refine V_iald dX8_firstUndoable_147 (sh hS rfl) (by omega) ?_
              refine V_val (show _ = c from hw.2.1) ?_
              refine V_iret dX8_firstUndoable_148 rfl (Nat.le_refl _) (Nat.le_refl _) ?_
              exact rP_i (if_neg (fun z => by first | exact br138 z.2 | (have z1 := z.1; omega))).symm rfl
            · refine V_aload_n dX8_firstUndoable_121 rfl ?_
              refine V_getfr dX8_firstUndoable_122 sf_RX8_15 (by decide) (sh hS rfl) (rf hS rfl) ?_
              refine V_iload dX8_firstUndoable_125 rfl ?_
              refine V_iald dX8_firstUndoable_127 (sh hS rfl) (by omega) ?_
              refine V_val (show _ = pk t n c from hw.1) ?_
              refine V_aload_n dX8_firstUndoable_128 rfl ?_
              refine V_getfr dX8_firstUndoable_129 sf_RX8_24 (by decide) (sh hS rfl) (rf hS rfl) ?_
              refine V_iload dX8_firstUndoable_132 rfl ?_
              refine V_aald dX8_firstUndoable_134 (sh hS rfl) (by decide) (by omega) (rf hS (ref24 k (by omega))) ?_
              refine V_callS dX8_firstUndoable_135 (c_isInBounds g _ hS t n c k (by omega) hw hl) ss_RX8_71 rfl ⟨⟨by decide, by decide⟩, ⟨by decide, by decide⟩⟩ (Nat.le_of_ble_eq_true rfl) (fun r135 s135 p135 => ?_)
              obtain ⟨rfl, rfl⟩ := p135
              refine V_ifneB (tgt := 149) dX8_firstUndoable_138 (by decide) (fun br138 => ?_) (fun br138 => ?_)
              · refine V_iinc dX8_firstUndoable_149 rfl (by decide) rfl ?_
                refine V_goto (tgt := 19) dX8_firstUndoable_152 (by decide) ?_
                refine V_mask [true, false, true, true, true, true, false] ?_
                first
                  | (exfalso; omega)
                  | (have e : fuF t n (c :: P.drop (k + 1)) s h b = fuF t n (P.drop (k + 1)) (s + adl (pk t n c) 115) (h + adl (pk t n c) 104) (b + adl (pk t n c) 98) := if_pos ⟨by omega, br138⟩
                     rw [e]
                     exact ih (k + 1) _ _ _ (by omega) (by omega) (by omega) (by omega) (by omega))
              · refine V_aload_n dX8_firstUndoable_141 rfl ?_
                refine V_getfr dX8_firstUndoable_142 sf_RX8_19 (by decide) (sh hS rfl) (rf hS rfl) ?_
                refine V_iload dX8_firstUndoable_145 rfl ?_
                refine V_iald dX8_firstUndoable_147 (sh hS rfl) (by omega) ?_
                refine V_val (show _ = c from hw.2.1) ?_
                refine V_iret dX8_firstUndoable_148 rfl (Nat.le_refl _) (Nat.le_refl _) ?_
                exact rP_i (if_neg (fun z => by first | exact br138 z.2 | (have z1 := z.1; omega))).symm rfl
          · refine V_iload_n dX8_firstUndoable_96 rfl ?_
            refine V_bipush dX8_firstUndoable_97 (by decide) ?_
            refine V_icmpgt (tgt := 113) dX8_firstUndoable_99 (by decide) (by omega) (by omega) (fun br99 => ?_) (fun br99 => ?_)
            · refine V_iconst dX8_firstUndoable_113 ?_
              refine V_istore dX8_firstUndoable_114 (by decide) rfl ?_
              refine V_iload dX8_firstUndoable_116 rfl ?_
              refine V_ifeq (tgt := 141) dX8_firstUndoable_118 (by decide) (by omega) (fun br118 => ?_) (fun br118 => ?_)
              · refine V_aload_n dX8_firstUndoable_141 rfl ?_
                refine V_getfr dX8_firstUndoable_142 sf_RX8_19 (by decide) (sh hS rfl) (rf hS rfl) ?_
                refine V_iload dX8_firstUndoable_145 rfl ?_
                refine V_iald dX8_firstUndoable_147 (sh hS rfl) (by omega) ?_
                refine V_val (show _ = c from hw.2.1) ?_
                refine V_iret dX8_firstUndoable_148 rfl (Nat.le_refl _) (Nat.le_refl _) ?_
                exact rP_i (if_neg (fun z => by first | exact br138 z.2 | (have z1 := z.1; omega))).symm rfl
              · refine V_aload_n dX8_firstUndoable_121 rfl ?_
                refine V_getfr dX8_firstUndoable_122 sf_RX8_15 (by decide) (sh hS rfl) (rf hS rfl) ?_
                refine V_iload dX8_firstUndoable_125 rfl ?_
                refine V_iald dX8_firstUndoable_127 (sh hS rfl) (by omega) ?_
                refine V_val (show _ = pk t n c from hw.1) ?_
                refine V_aload_n dX8_firstUndoable_128 rfl ?_
                refine V_getfr dX8_firstUndoable_129 sf_RX8_24 (by decide) (sh hS rfl) (rf hS rfl) ?_
                refine V_iload dX8_firstUndoable_132 rfl ?_
                refine V_aald dX8_firstUndoable_134 (sh hS rfl) (by decide) (by omega) (rf hS (ref24 k (by omega))) ?_
                refine V_callS dX8_firstUndoable_135 (c_isInBounds g _ hS t n c k (by omega) hw hl) ss_RX8_71 rfl ⟨⟨by decide, by decide⟩, ⟨by decide, by decide⟩⟩ (Nat.le_of_ble_eq_true rfl) (fun r135 s135 p135 => ?_)
                obtain ⟨rfl, rfl⟩ := p135
                refine V_ifneB (tgt := 149) dX8_firstUndoable_138 (by decide) (fun br138 => ?_) (fun br138 => ?_)
                · refine V_iinc dX8_firstUndoable_149 rfl (by decide) rfl ?_
                  refine V_goto (tgt := 19) dX8_firstUndoable_152 (by decide) ?_
                  refine V_mask [true, false, true, true, true, true, false] ?_
                  first
                    | (exfalso; omega)
                    | (have e : fuF t n (c :: P.drop (k + 1)) s h b = fuF t n (P.drop (k + 1)) (s + adl (pk t n c) 115) (h + adl (pk t n c) 104) (b + adl (pk t n c) 98) := if_pos ⟨by omega, br138⟩
                       rw [e]
                       exact ih (k + 1) _ _ _ (by omega) (by omega) (by omega) (by omega) (by omega))
                · refine V_aload_n dX8_firstUndoable_141 rfl ?_
                  refine V_getfr dX8_firstUndoable_142 sf_RX8_19 (by decide) (sh hS rfl) (rf hS rfl) ?_
                  refine V_iload dX8_firstUndoable_145 rfl ?_
                  refine V_iald dX8_firstUndoable_147 (sh hS rfl) (by omega) ?_
                  refine V_val (show _ = c from hw.2.1) ?_
                  refine V_iret dX8_firstUndoable_148 rfl (Nat.le_refl _) (Nat.le_refl _) ?_
                  exact rP_i (if_neg (fun z => by first | exact br138 z.2 | (have z1 := z.1; omega))).symm rfl
            · refine V_iload dX8_firstUndoable_102 rfl ?_
              refine V_bipush dX8_firstUndoable_104 (by decide) ?_
              refine V_icmpgt (tgt := 113) dX8_firstUndoable_106 (by decide) (by omega) (by omega) (fun br106 => ?_) (fun br106 => ?_)
              · refine V_iconst dX8_firstUndoable_113 ?_
                refine V_istore dX8_firstUndoable_114 (by decide) rfl ?_
                refine V_iload dX8_firstUndoable_116 rfl ?_
                refine V_ifeq (tgt := 141) dX8_firstUndoable_118 (by decide) (by omega) (fun br118 => ?_) (fun br118 => ?_)
                · refine V_aload_n dX8_firstUndoable_141 rfl ?_
                  refine V_getfr dX8_firstUndoable_142 sf_RX8_19 (by decide) (sh hS rfl) (rf hS rfl) ?_
                  refine V_iload dX8_firstUndoable_145 rfl ?_
                  refine V_iald dX8_firstUndoable_147 (sh hS rfl) (by omega) ?_
                  refine V_val (show _ = c from hw.2.1) ?_
                  refine V_iret dX8_firstUndoable_148 rfl (Nat.le_refl _) (Nat.le_refl _) ?_
                  exact rP_i (if_neg (fun z => by first | exact br138 z.2 | (have z1 := z.1; omega))).symm rfl
                · refine V_aload_n dX8_firstUndoable_121 rfl ?_
                  refine V_getfr dX8_firstUndoable_122 sf_RX8_15 (by decide) (sh hS rfl) (rf hS rfl) ?_
                  refine V_iload dX8_firstUndoable_125 rfl ?_
                  refine V_iald dX8_firstUndoable_127 (sh hS rfl) (by omega) ?_
                  refine V_val (show _ = pk t n c from hw.1) ?_
                  refine V_aload_n dX8_firstUndoable_128 rfl ?_
                  refine V_getfr dX8_firstUndoable_129 sf_RX8_24 (by decide) (sh hS rfl) (rf hS rfl) ?_
                  refine V_iload dX8_firstUndoable_132 rfl ?_
                  refine V_aald dX8_firstUndoable_134 (sh hS rfl) (by decide) (by omega) (rf hS (ref24 k (by omega))) ?_
                  refine V_callS dX8_firstUndoable_135 (c_isInBounds g _ hS t n c k (by omega) hw hl) ss_RX8_71 rfl ⟨⟨by decide, by decide⟩, ⟨by decide, by decide⟩⟩ (Nat.le_of_ble_eq_true rfl) (fun r135 s135 p135 => ?_)
                  obtain ⟨rfl, rfl⟩ := p135
                  refine V_ifneB (tgt := 149) dX8_firstUndoable_138 (by decide) (fun br138 => ?_) (fun br138 => ?_)
                  · refine V_iinc dX8_firstUndoable_149 rfl (by decide) rfl ?_
                    refine V_goto (tgt := 19) dX8_firstUndoable_152 (by decide) ?_
                    refine V_mask [true, false, true, true, true, true, false] ?_
                    first
                      | (exfalso; omega)
                      | (have e : fuF t n (c :: P.drop (k + 1)) s h b = fuF t n (P.drop (k + 1)) (s + adl (pk t n c) 115) (h + adl (pk t n c) 104) (b + adl (pk t n c) 98) := if_pos ⟨by omega, br138⟩
                         rw [e]
                         exact ih (k + 1) _ _ _ (by omega) (by omega) (by omega) (by omega) (by omega))
                  · refine V_aload_n dX8_firstUndoable_141 rfl ?_
                    refine V_getfr dX8_firstUndoable_142 sf_RX8_19 (by decide) (sh hS rfl) (rf hS rfl) ?_
                    refine V_iload dX8_firstUndoable_145 rfl ?_
                    refine V_iald dX8_firstUndoable_147 (sh hS rfl) (by omega) ?_
                    refine V_val (show _ = c from hw.2.1) ?_
                    refine V_iret dX8_firstUndoable_148 rfl (Nat.le_refl _) (Nat.le_refl _) ?_
                    exact rP_i (if_neg (fun z => by first | exact br138 z.2 | (have z1 := z.1; omega))).symm rfl
              · refine V_iconst dX8_firstUndoable_109 ?_
                refine V_goto (tgt := 114) dX8_firstUndoable_110 (by decide) ?_
                refine V_istore dX8_firstUndoable_114 (by decide) rfl ?_
                refine V_iload dX8_firstUndoable_116 rfl ?_
                refine V_ifeq (tgt := 141) dX8_firstUndoable_118 (by decide) (by omega) (fun br118 => ?_) (fun br118 => ?_)
                · refine V_aload_n dX8_firstUndoable_141 rfl ?_
                  refine V_getfr dX8_firstUndoable_142 sf_RX8_19 (by decide) (sh hS rfl) (rf hS rfl) ?_
                  refine V_iload dX8_firstUndoable_145 rfl ?_
                  refine V_iald dX8_firstUndoable_147 (sh hS rfl) (by omega) ?_
                  refine V_val (show _ = c from hw.2.1) ?_
                  refine V_iret dX8_firstUndoable_148 rfl (Nat.le_refl _) (Nat.le_refl _) ?_
                  exact rP_i (if_neg (fun z => by first | exact br138 z.2 | (have z1 := z.1; omega))).symm rfl
                · refine V_aload_n dX8_firstUndoable_121 rfl ?_
                  refine V_getfr dX8_firstUndoable_122 sf_RX8_15 (by decide) (sh hS rfl) (rf hS rfl) ?_
                  refine V_iload dX8_firstUndoable_125 rfl ?_
                  refine V_iald dX8_firstUndoable_127 (sh hS rfl) (by omega) ?_
                  refine V_val (show _ = pk t n c from hw.1) ?_
                  refine V_aload_n dX8_firstUndoable_128 rfl ?_
                  refine V_getfr dX8_firstUndoable_129 sf_RX8_24 (by decide) (sh hS rfl) (rf hS rfl) ?_
                  refine V_iload dX8_firstUndoable_132 rfl ?_
                  refine V_aald dX8_firstUndoable_134 (sh hS rfl) (by decide) (by omega) (rf hS (ref24 k (by omega))) ?_
                  refine V_callS dX8_firstUndoable_135 (c_isInBounds g _ hS t n c k (by omega) hw hl) ss_RX8_71 rfl ⟨⟨by decide, by decide⟩, ⟨by decide, by decide⟩⟩ (Nat.le_of_ble_eq_true rfl) (fun r135 s135 p135 => ?_)
                  obtain ⟨rfl, rfl⟩ := p135
                  refine V_ifneB (tgt := 149) dX8_firstUndoable_138 (by decide) (fun br138 => ?_) (fun br138 => ?_)
                  · refine V_iinc dX8_firstUndoable_149 rfl (by decide) rfl ?_
                    refine V_goto (tgt := 19) dX8_firstUndoable_152 (by decide) ?_
                    refine V_mask [true, false, true, true, true, true, false] ?_
                    first
                      | (exfalso; omega)
                      | (have e : fuF t n (c :: P.drop (k + 1)) s h b = fuF t n (P.drop (k + 1)) (s + adl (pk t n c) 115) (h + adl (pk t n c) 104) (b + adl (pk t n c) 98) := if_pos ⟨by omega, br138⟩
                         rw [e]
                         exact ih (k + 1) _ _ _ (by omega) (by omega) (by omega) (by omega) (by omega))
                  · refine V_aload_n dX8_firstUndoable_141 rfl ?_
                    refine V_getfr dX8_firstUndoable_142 sf_RX8_19 (by decide) (sh hS rfl) (rf hS rfl) ?_
                    refine V_iload dX8_firstUndoable_145 rfl ?_
                    refine V_iald dX8_firstUndoable_147 (sh hS rfl) (by omega) ?_
                    refine V_val (show _ = c from hw.2.1) ?_
                    refine V_iret dX8_firstUndoable_148 rfl (Nat.le_refl _) (Nat.le_refl _) ?_
                    exact rP_i (if_neg (fun z => by first | exact br138 z.2 | (have z1 := z.1; omega))).symm rfl
        have d1 : ∀ x, pk t n c = x → adl (pk t n c) x = 1 := fun x q => if_pos q
        have d0 : ∀ x, ¬ pk t n c = x → adl (pk t n c) x = 0 := fun x q => if_neg q
        refine V_iload dX8_firstUndoable_19 rfl ?_
        refine V_aload_n dX8_firstUndoable_21 rfl ?_
        refine V_getfi dX8_firstUndoable_22 sf_RX8_34 rfl (sh hS rfl) ?_
        refine V_icmpge (tgt := 155) dX8_firstUndoable_25 (by decide) (by omega) (by omega) (fun br25 => ?_) (fun br25 => ?_)
        · omega
        · refine V_iload_n dX8_firstUndoable_28 rfl ?_
          refine V_aload_n dX8_firstUndoable_29 rfl ?_
          refine V_getfr dX8_firstUndoable_30 sf_RX8_15 (by decide) (sh hS rfl) (rf hS rfl) ?_
          refine V_iload dX8_firstUndoable_33 rfl ?_
          refine V_iald dX8_firstUndoable_35 (sh hS rfl) (by omega) ?_
          refine V_val (show _ = pk t n c from hw.1) ?_
          refine V_bipush dX8_firstUndoable_36 (by decide) ?_
          refine V_icmpne (tgt := 45) dX8_firstUndoable_38 (by decide) (by omega) (by omega) (fun br38 => ?_) (fun br38 => ?_)
          · have e1 := d0 115 br38
            refine V_iconst dX8_firstUndoable_45 ?_
            refine V_iadd dX8_firstUndoable_46 ?_
            refine V_istore_n dX8_firstUndoable_47 (by decide) rfl ?_
            refine V_iload_n dX8_firstUndoable_48 rfl ?_
            refine V_aload_n dX8_firstUndoable_49 rfl ?_
            refine V_getfr dX8_firstUndoable_50 sf_RX8_15 (by decide) (sh hS rfl) (rf hS rfl) ?_
            refine V_iload dX8_firstUndoable_53 rfl ?_
            refine V_iald dX8_firstUndoable_55 (sh hS rfl) (by omega) ?_
            refine V_val (show _ = pk t n c from hw.1) ?_
            refine V_bipush dX8_firstUndoable_56 (by decide) ?_
            refine V_icmpne (tgt := 65) dX8_firstUndoable_58 (by decide) (by omega) (by omega) (fun br58 => ?_) (fun br58 => ?_)
            · have e2 := d0 104 br58
              refine V_iconst dX8_firstUndoable_65 ?_
              refine V_iadd dX8_firstUndoable_66 ?_
              refine V_istore_n dX8_firstUndoable_67 (by decide) rfl ?_
              refine V_iload dX8_firstUndoable_68 rfl ?_
              refine V_aload_n dX8_firstUndoable_70 rfl ?_
              refine V_getfr dX8_firstUndoable_71 sf_RX8_15 (by decide) (sh hS rfl) (rf hS rfl) ?_
              refine V_iload dX8_firstUndoable_74 rfl ?_
              refine V_iald dX8_firstUndoable_76 (sh hS rfl) (by omega) ?_
              refine V_val (show _ = pk t n c from hw.1) ?_
              refine V_bipush dX8_firstUndoable_77 (by decide) ?_
              refine V_icmpne (tgt := 86) dX8_firstUndoable_79 (by decide) (by omega) (by omega) (fun br79 => ?_) (fun br79 => ?_)
              · have e3 := d0 98 br79
                refine V_iconst dX8_firstUndoable_86 ?_
                refine V_iadd dX8_firstUndoable_87 ?_
                refine V_istore dX8_firstUndoable_88 (by decide) rfl ?_
                refine V_mask [true, false, true, true, true, true, false] ?_
                exact mid _ _ _ (by rw [e1]) (by rw [e2]) (by rw [e3])
              · have e3 := d1 98 (by omega)
                refine V_iconst dX8_firstUndoable_82 ?_
                refine V_goto (tgt := 87) dX8_firstUndoable_83 (by decide) ?_
                refine V_iadd dX8_firstUndoable_87 ?_
                refine V_istore dX8_firstUndoable_88 (by decide) rfl ?_
                refine V_mask [true, false, true, true, true, true, false] ?_
                exact mid _ _ _ (by rw [e1]) (by rw [e2]) (by rw [e3])
            · have e2 := d1 104 (by omega)
              refine V_iconst dX8_firstUndoable_61 ?_
              refine V_goto (tgt := 66) dX8_firstUndoable_62 (by decide) ?_
              refine V_iadd dX8_firstUndoable_66 ?_
              refine V_istore_n dX8_firstUndoable_67 (by decide) rfl ?_
              refine V_iload dX8_firstUndoable_68 rfl ?_
              refine V_aload_n dX8_firstUndoable_70 rfl ?_
              refine V_getfr dX8_firstUndoable_71 sf_RX8_15 (by decide) (sh hS rfl) (rf hS rfl) ?_
              refine V_iload dX8_firstUndoable_74 rfl ?_
              refine V_iald dX8_firstUndoable_76 (sh hS rfl) (by omega) ?_
              refine V_val (show _ = pk t n c from hw.1) ?_
              refine V_bipush dX8_firstUndoable_77 (by decide) ?_
              refine V_icmpne (tgt := 86) dX8_firstUndoable_79 (by decide) (by omega) (by omega) (fun br79 => ?_) (fun br79 => ?_)
              · have e3 := d0 98 br79
                refine V_iconst dX8_firstUndoable_86 ?_
                refine V_iadd dX8_firstUndoable_87 ?_
                refine V_istore dX8_firstUndoable_88 (by decide) rfl ?_
                refine V_mask [true, false, true, true, true, true, false] ?_
                exact mid _ _ _ (by rw [e1]) (by rw [e2]) (by rw [e3])
              · have e3 := d1 98 (by omega)
                refine V_iconst dX8_firstUndoable_82 ?_
                refine V_goto (tgt := 87) dX8_firstUndoable_83 (by decide) ?_
                refine V_iadd dX8_firstUndoable_87 ?_
                refine V_istore dX8_firstUndoable_88 (by decide) rfl ?_
                refine V_mask [true, false, true, true, true, true, false] ?_
                exact mid _ _ _ (by rw [e1]) (by rw [e2]) (by rw [e3])
          · have e1 := d1 115 (by omega)
            refine V_iconst dX8_firstUndoable_41 ?_
            refine V_goto (tgt := 46) dX8_firstUndoable_42 (by decide) ?_
            refine V_iadd dX8_firstUndoable_46 ?_
            refine V_istore_n dX8_firstUndoable_47 (by decide) rfl ?_
            refine V_iload_n dX8_firstUndoable_48 rfl ?_
            refine V_aload_n dX8_firstUndoable_49 rfl ?_
            refine V_getfr dX8_firstUndoable_50 sf_RX8_15 (by decide) (sh hS rfl) (rf hS rfl) ?_
            refine V_iload dX8_firstUndoable_53 rfl ?_
            refine V_iald dX8_firstUndoable_55 (sh hS rfl) (by omega) ?_
            refine V_val (show _ = pk t n c from hw.1) ?_
            refine V_bipush dX8_firstUndoable_56 (by decide) ?_
            refine V_icmpne (tgt := 65) dX8_firstUndoable_58 (by decide) (by omega) (by omega) (fun br58 => ?_) (fun br58 => ?_)
            · have e2 := d0 104 br58
              refine V_iconst dX8_firstUndoable_65 ?_
              refine V_iadd dX8_firstUndoable_66 ?_
              refine V_istore_n dX8_firstUndoable_67 (by decide) rfl ?_
              refine V_iload dX8_firstUndoable_68 rfl ?_
              refine V_aload_n dX8_firstUndoable_70 rfl ?_
              refine V_getfr dX8_firstUndoable_71 sf_RX8_15 (by decide) (sh hS rfl) (rf hS rfl) ?_
              refine V_iload dX8_firstUndoable_74 rfl ?_
              refine V_iald dX8_firstUndoable_76 (sh hS rfl) (by omega) ?_
              refine V_val (show _ = pk t n c from hw.1) ?_
              refine V_bipush dX8_firstUndoable_77 (by decide) ?_
              refine V_icmpne (tgt := 86) dX8_firstUndoable_79 (by decide) (by omega) (by omega) (fun br79 => ?_) (fun br79 => ?_)
              · have e3 := d0 98 br79
                refine V_iconst dX8_firstUndoable_86 ?_
                refine V_iadd dX8_firstUndoable_87 ?_
                refine V_istore dX8_firstUndoable_88 (by decide) rfl ?_
                refine V_mask [true, false, true, true, true, true, false] ?_
                exact mid _ _ _ (by rw [e1]) (by rw [e2]) (by rw [e3])
              · have e3 := d1 98 (by omega)
                refine V_iconst dX8_firstUndoable_82 ?_
                refine V_goto (tgt := 87) dX8_firstUndoable_83 (by decide) ?_
                refine V_iadd dX8_firstUndoable_87 ?_
                refine V_istore dX8_firstUndoable_88 (by decide) rfl ?_
                refine V_mask [true, false, true, true, true, true, false] ?_
                exact mid _ _ _ (by rw [e1]) (by rw [e2]) (by rw [e3])
            · have e2 := d1 104 (by omega)
              refine V_iconst dX8_firstUndoable_61 ?_
              refine V_goto (tgt := 66) dX8_firstUndoable_62 (by decide) ?_
              refine V_iadd dX8_firstUndoable_66 ?_
              refine V_istore_n dX8_firstUndoable_67 (by decide) rfl ?_
              refine V_iload dX8_firstUndoable_68 rfl ?_
              refine V_aload_n dX8_firstUndoable_70 rfl ?_
              refine V_getfr dX8_firstUndoable_71 sf_RX8_15 (by decide) (sh hS rfl) (rf hS rfl) ?_
              refine V_iload dX8_firstUndoable_74 rfl ?_
              refine V_iald dX8_firstUndoable_76 (sh hS rfl) (by omega) ?_
              refine V_val (show _ = pk t n c from hw.1) ?_
              refine V_bipush dX8_firstUndoable_77 (by decide) ?_
              refine V_icmpne (tgt := 86) dX8_firstUndoable_79 (by decide) (by omega) (by omega) (fun br79 => ?_) (fun br79 => ?_)
              · have e3 := d0 98 br79
                refine V_iconst dX8_firstUndoable_86 ?_
                refine V_iadd dX8_firstUndoable_87 ?_
                refine V_istore dX8_firstUndoable_88 (by decide) rfl ?_
                refine V_mask [true, false, true, true, true, true, false] ?_
                exact mid _ _ _ (by rw [e1]) (by rw [e2]) (by rw [e3])
              · have e3 := d1 98 (by omega)
                refine V_iconst dX8_firstUndoable_82 ?_
                refine V_goto (tgt := 87) dX8_firstUndoable_83 (by decide) ?_
                refine V_iadd dX8_firstUndoable_87 ?_
                refine V_istore dX8_firstUndoable_88 (by decide) rfl ?_
                refine V_mask [true, false, true, true, true, true, false] ?_
                exact mid _ _ _ (by rw [e1]) (by rw [e2]) (by rw [e3])
      · have dk : P.drop k = [] := List.drop_eq_nil_of_le (by omega)
        rw [dk]
        refine V_iload dX8_firstUndoable_19 rfl ?_
        refine V_aload_n dX8_firstUndoable_21 rfl ?_
        refine V_getfi dX8_firstUndoable_22 sf_RX8_34 rfl (sh hS rfl) ?_
        refine V_icmpge (tgt := 155) dX8_firstUndoable_25 (by decide) (by omega) (by omega) (fun br25 => ?_) (fun br25 => ?_)
        · refine V_iconst dX8_firstUndoable_155 ?_
          refine V_iret dX8_firstUndoable_156 rfl (Nat.le_refl _) (Nat.le_refl _) ?_
          exact rP_i rfl rfl
        · omega
  refine V_aload_n dX8_firstUndoable_0 rfl ?_
  refine V_getfi dX8_firstUndoable_1 sf_RX8_60 rfl (sh hS rfl) ?_
  refine V_val (show _ = w 4 from n4.1) ?_
  refine V_istore_n dX8_firstUndoable_4 (by decide) rfl ?_
  refine V_aload_n dX8_firstUndoable_5 rfl ?_
  refine V_getfi dX8_firstUndoable_6 sf_RX8_65 rfl (sh hS rfl) ?_
  refine V_val (show _ = w 5 from n5.1) ?_
  refine V_istore_n dX8_firstUndoable_9 (by decide) rfl ?_
  refine V_aload_n dX8_firstUndoable_10 rfl ?_
  refine V_getfi dX8_firstUndoable_11 sf_RX8_68 rfl (sh hS rfl) ?_
  refine V_val (show _ = w 6 from n6.1) ?_
  refine V_istore dX8_firstUndoable_14 (by decide) rfl ?_
  refine V_iconst dX8_firstUndoable_16 ?_
  refine V_istore dX8_firstUndoable_17 (by decide) rfl ?_
  refine V_mask [true, false, true, true, true, true, false] ?_
  exact loop _ 0 _ _ _ (Nat.lt_succ_self _) (Nat.zero_le _) n4.2 n5.2 n6.2