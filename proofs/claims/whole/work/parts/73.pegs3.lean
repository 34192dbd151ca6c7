abbrev undA (what is kind : Int) : Prop := kind = 0 ∨ is = kind ∨ (what = 0 ∧ ((kind = 1 ∧ is = 4) ∨ (kind = 2 ∧ is = 3))) ∨ (what ≠ 0 ∧ kind = 1 ∧ is = 3)
theorem undA_s {what is kind : Int} (h : what = 0) : undA what is kind ↔ undS is kind := by unfold undA undS; omega
theorem undA_h {what is kind : Int} (h : what = 1) : undA what is kind ↔ undH is kind := by unfold undA undH; omega
def asA (A : Ab) (peg what kind : Int) : Int := if 0 ≤ peg ∧ peg ≤ 5 then (if (0 ≤ what ∧ what ≤ 2) ∧ (0 ≤ kind ∧ kind ≤ kdN what - 1) then (if aP A peg.toNat = 0 then -11 else if aP A peg.toNat = what + 1 ∧ undA what (aK A peg.toNat) kind then aZ A peg.toNat else -13) else -2) else -1
theorem asA_v {A : Ab} {peg what kind : Int} (hq : 0 ≤ peg ∧ peg ≤ 5) (h1 : 0 ≤ what ∧ what ≤ 2) (h2 : 0 ≤ kind ∧ kind ≤ kdN what - 1) : asA A peg what kind = if aP A peg.toNat = 0 then -11 else if aP A peg.toNat = what + 1 ∧ undA what (aK A peg.toNat) kind then aZ A peg.toNat else -13 := by
  unfold asA
  rw [if_pos hq, if_pos ⟨h1, h2⟩]
theorem c_as (g : Gl) (σ : St) (A : Ab) (N : Nat) (hC : CL σ A) (hA : AI A N) (peg what kind : Int) (h1 : inR peg) (h2 : inR what) (h3 : inR kind) : Ct g mX11_as 2 0 0 [vq (some 8), vi peg, vi what, vi kind] σ (rP (vi (asA A peg what kind)) σ) := by
  refine Ct.of (by decide +kernel) (Nat.le_of_ble_eq_true rfl) ?_
  have hS := hC.1
  have k0 : what = 0 → kdN what = 5 := fun q => if_pos q
  have k1 : what = 1 → kdN what = 4 := fun q => by unfold kdN; rw [if_neg (by omega), if_pos q]
  have k2 : what = 2 → kdN what = 1 := fun q => by unfold kdN; rw [if_neg (by omega), if_neg (by omega)]
  have kb : 1 ≤ kdN what ∧ kdN what ≤ 5 := by unfold kdN; (repeat' split) <;> decide
  by_cases hq : 0 ≤ peg ∧ peg ≤ 5
  · have hP := hC.2.2.2.2.2.2.2.2.1 peg.toNat (by omega)
    have ha := hA.2.2.2.2.2.2 peg.toNat (by omega)
    rcases hP with ⟨x, y⟩ | ⟨x, b, y1, y2, y3, y4, y5, y6⟩ | ⟨x, b, y1, y2, y3, y4, y5⟩ | ⟨x, b, y1, y2, y3, y4⟩ | ⟨x, b, c, n, y1, y2, y3, y4, y5, y6, y7, y8, y9, y10⟩
    · refine V_iload_n dX11_as_0 rfl ?_
      refine V_callS dX11_as_1 (c_isPeg g _ _ (by omega)) ss_RX11_299 rfl ⟨⟨by decide, by decide⟩, ⟨by decide, by decide⟩⟩ (Nat.le_of_ble_eq_true rfl) (fun r1 s1 p1 => ?_)
      obtain ⟨rfl, rfl⟩ := p1
      refine V_ifneB (tgt := 9) dX11_as_4 (by decide) (fun br4 => ?_) (fun br4 => ?_)
      · refine V_iload_n dX11_as_9 rfl ?_
        refine V_iconst dX11_as_10 ?_
        refine V_iconst dX11_as_11 ?_
        refine V_callS dX11_as_12 (c_isIn g _ _ _ _ (by omega) (by omega) (by omega)) ss_RX11_107 rfl ⟨⟨by decide, by decide⟩, ⟨by decide, by decide⟩⟩ (Nat.le_of_ble_eq_true rfl) (fun r12 s12 p12 => ?_)
        obtain ⟨rfl, rfl⟩ := p12
        refine V_ifeqB (tgt := 32) dX11_as_15 (by decide) (fun br15 => ?_) (fun br15 => ?_)
        · refine V_bipush dX11_as_32 (by decide) ?_
          refine V_iret dX11_as_34 rfl (Nat.le_refl _) (Nat.le_refl _) ?_
          exact rP_i (by unfold asA; rw [if_pos hq, if_neg (fun z => by first | exact br15 z.1 | exact br29 z.2)]) rfl
        · refine V_iload_n dX11_as_18 rfl ?_
          refine V_iconst dX11_as_19 ?_
          refine V_iload_n dX11_as_20 rfl ?_
          refine V_callS dX11_as_21 (c_kindsOf g _ _ (by omega)) ss_RX11_314 rfl ⟨⟨by decide, by decide⟩, ⟨by decide, by decide⟩⟩ (Nat.le_of_ble_eq_true rfl) (fun r21 s21 p21 => ?_)
          obtain ⟨rfl, rfl⟩ := p21
          refine V_iconst dX11_as_24 ?_
          refine V_isub dX11_as_25 ?_
          refine V_callS dX11_as_26 (c_isIn g _ _ _ _ (by omega) (by omega) (by omega)) ss_RX11_107 rfl ⟨⟨by decide, by decide⟩, ⟨by decide, by decide⟩⟩ (Nat.le_of_ble_eq_true rfl) (fun r26 s26 p26 => ?_)
          obtain ⟨rfl, rfl⟩ := p26
          refine V_ifneB (tgt := 35) dX11_as_29 (by decide) (fun br29 => ?_) (fun br29 => ?_)
          · refine V_aload_n dX11_as_35 rfl ?_
            refine V_getfr dX11_as_36 sf_RX11_27 (by decide) (sh hS rfl) (rf hS rfl) ?_
            refine V_iload_n dX11_as_39 rfl ?_
            refine V_aald dX11_as_40 (sh hS rfl) (by decide) (by omega) y ?_
            refine V_astore dX11_as_41 (by decide) rfl ?_
            refine V_aload dX11_as_43 rfl ?_
            refine V_ifnonnull (tgt := 51) dX11_as_45 (by decide) (fun a45 br45 => ?_) (fun br45 => ?_)
            · cases br45
            · refine V_bipush dX11_as_48 (by decide) ?_
              refine V_iret dX11_as_50 rfl (Nat.le_refl _) (Nat.le_refl _) ?_
              exact rP_i (by rw [asA_v hq br15 br29, if_pos x]) rfl
          · refine V_bipush dX11_as_32 (by decide) ?_
            refine V_iret dX11_as_34 rfl (Nat.le_refl _) (Nat.le_refl _) ?_
            exact rP_i (by unfold asA; rw [if_pos hq, if_neg (fun z => by first | exact br15 z.1 | exact br29 z.2)]) rfl
      · exact absurd hq br4
    · refine V_iload_n dX11_as_0 rfl ?_
      refine V_callS dX11_as_1 (c_isPeg g _ _ (by omega)) ss_RX11_299 rfl ⟨⟨by decide, by decide⟩, ⟨by decide, by decide⟩⟩ (Nat.le_of_ble_eq_true rfl) (fun r1 s1 p1 => ?_)
      obtain ⟨rfl, rfl⟩ := p1
      refine V_ifneB (tgt := 9) dX11_as_4 (by decide) (fun br4 => ?_) (fun br4 => ?_)
      · refine V_iload_n dX11_as_9 rfl ?_
        refine V_iconst dX11_as_10 ?_
        refine V_iconst dX11_as_11 ?_
        refine V_callS dX11_as_12 (c_isIn g _ _ _ _ (by omega) (by omega) (by omega)) ss_RX11_107 rfl ⟨⟨by decide, by decide⟩, ⟨by decide, by decide⟩⟩ (Nat.le_of_ble_eq_true rfl) (fun r12 s12 p12 => ?_)
        obtain ⟨rfl, rfl⟩ := p12
        refine V_ifeqB (tgt := 32) dX11_as_15 (by decide) (fun br15 => ?_) (fun br15 => ?_)
        · refine V_bipush dX11_as_32 (by decide) ?_
          refine V_iret dX11_as_34 rfl (Nat.le_refl _) (Nat.le_refl _) ?_
          exact rP_i (by unfold asA; rw [if_pos hq, if_neg (fun z => by first | exact br15 z.1 | exact br29 z.2)]) rfl
        · refine V_iload_n dX11_as_18 rfl ?_
          refine V_iconst dX11_as_19 ?_
          refine V_iload_n dX11_as_20 rfl ?_
          refine V_callS dX11_as_21 (c_kindsOf g _ _ (by omega)) ss_RX11_314 rfl ⟨⟨by decide, by decide⟩, ⟨by decide, by decide⟩⟩ (Nat.le_of_ble_eq_true rfl) (fun r21 s21 p21 => ?_)
          obtain ⟨rfl, rfl⟩ := p21
          refine V_iconst dX11_as_24 ?_
          refine V_isub dX11_as_25 ?_
          refine V_callS dX11_as_26 (c_isIn g _ _ _ _ (by omega) (by omega) (by omega)) ss_RX11_107 rfl ⟨⟨by decide, by decide⟩, ⟨by decide, by decide⟩⟩ (Nat.le_of_ble_eq_true rfl) (fun r26 s26 p26 => ?_)
          obtain ⟨rfl, rfl⟩ := p26
          refine V_ifneB (tgt := 35) dX11_as_29 (by decide) (fun br29 => ?_) (fun br29 => ?_)
          · refine V_aload_n dX11_as_35 rfl ?_
            refine V_getfr dX11_as_36 sf_RX11_27 (by decide) (sh hS rfl) (rf hS rfl) ?_
            refine V_iload_n dX11_as_39 rfl ?_
            refine V_aald dX11_as_40 (sh hS rfl) (by decide) (by omega) y1 ?_
            refine V_astore dX11_as_41 (by decide) rfl ?_
            refine V_aload dX11_as_43 rfl ?_
            refine V_ifnonnull (tgt := 51) dX11_as_45 (by decide) (fun a45 br45 => ?_) (fun br45 => ?_)
            · refine V_iload_n dX11_as_51 rfl ?_
              refine V_ifne (tgt := 96) dX11_as_52 (by decide) (by omega) (fun br52 => ?_) (fun br52 => ?_)
              · refine V_iload_n dX11_as_96 rfl ?_
                refine V_iconst dX11_as_97 ?_
                refine V_icmpne (tgt := 142) dX11_as_98 (by decide) (by omega) (by omega) (fun br98 => ?_) (fun br98 => ?_)
                · refine V_iload_n dX11_as_142 rfl ?_
                  refine V_iconst dX11_as_143 ?_
                  refine V_icmpne (tgt := 168) dX11_as_144 (by decide) (by omega) (by omega) (fun br144 => ?_) (fun br144 => ?_)
                  · refine V_bipush dX11_as_168 (by decide) ?_
                    refine V_iret dX11_as_170 rfl (Nat.le_refl _) (Nat.le_refl _) ?_
                    exact rP_i (by rw [asA_v hq br15 br29, if_neg (by omega), if_neg (fun z => by omega)]) rfl
                  · refine V_aload dX11_as_147 rfl ?_
                    refine V_instNo dX11_as_149 sl_RX11_96 y3 ⟨_, rfl, by decide⟩ ?_
                    refine V_ifeq (tgt := 168) dX11_as_152 (by decide) (by omega) (fun br152 => ?_) (fun br152 => ?_)
                    · refine V_bipush dX11_as_168 (by decide) ?_
                      refine V_iret dX11_as_170 rfl (Nat.le_refl _) (Nat.le_refl _) ?_
                      exact rP_i (by rw [asA_v hq br15 br29, if_neg (by omega), if_neg (fun z => by omega)]) rfl
                    · omega
                · refine V_aload dX11_as_101 rfl ?_
                  refine V_instNo dX11_as_103 sl_RX11_84 y3 ⟨_, rfl, by decide⟩ ?_
                  refine V_ifeq (tgt := 142) dX11_as_106 (by decide) (by omega) (fun br106 => ?_) (fun br106 => ?_)
                  · refine V_iload_n dX11_as_142 rfl ?_
                    refine V_iconst dX11_as_143 ?_
                    refine V_icmpne (tgt := 168) dX11_as_144 (by decide) (by omega) (by omega) (fun br144 => ?_) (fun br144 => ?_)
                    · refine V_bipush dX11_as_168 (by decide) ?_
                      refine V_iret dX11_as_170 rfl (Nat.le_refl _) (Nat.le_refl _) ?_
                      exact rP_i (by rw [asA_v hq br15 br29, if_neg (by omega), if_neg (fun z => by omega)]) rfl
                    · refine V_aload dX11_as_147 rfl ?_
                      refine V_instNo dX11_as_149 sl_RX11_96 y3 ⟨_, rfl, by decide⟩ ?_
                      refine V_ifeq (tgt := 168) dX11_as_152 (by decide) (by omega) (fun br152 => ?_) (fun br152 => ?_)
                      · refine V_bipush dX11_as_168 (by decide) ?_
                        refine V_iret dX11_as_170 rfl (Nat.le_refl _) (Nat.le_refl _) ?_
                        exact rP_i (by rw [asA_v hq br15 br29, if_neg (by omega), if_neg (fun z => by omega)]) rfl
                      · omega
                  · omega
              · refine V_aload dX11_as_55 rfl ?_
                refine V_instY dX11_as_57 sl_RX11_71 y3 ⟨_, rfl, rfl⟩ ?_
                refine V_ifeq (tgt := 96) dX11_as_60 (by decide) (by omega) (fun br60 => ?_) (fun br60 => ?_)
                · omega
                · refine V_aload dX11_as_63 rfl ?_
                  refine V_castY dX11_as_65 sl_RX11_71 y3 ⟨_, rfl, rfl⟩ ?_
                  refine V_astore dX11_as_68 (by decide) rfl ?_
                  refine V_aload dX11_as_70 rfl ?_
                  refine V_getfi dX11_as_72 sf_RX11_134 rfl y3 ?_
                  refine V_val (show _ = aK A peg.toNat from y4) ?_
                  refine V_iload_n dX11_as_75 rfl ?_
                  refine V_gets (a := 2) dX11_as_76 (by decide) sg_RX11_317 ?_
                  refine V_callS dX11_as_79 (c_underS g _ (aK A peg.toNat) kind (by omega) (by have := k0 (by omega); omega)) ss_RX11_320 rfl ⟨⟨by decide, by decide⟩, ⟨by decide, by decide⟩⟩ (Nat.le_of_ble_eq_true rfl) (fun r79 s79 p79 => ?_)
                  obtain ⟨rfl, rfl⟩ := p79
                  refine V_ifeqB (tgt := 93) dX11_as_82 (by decide) (fun br82 => ?_) (fun br82 => ?_)
                  · refine V_bipush dX11_as_93 (by decide) ?_
                    refine V_iret dX11_as_95 rfl (Nat.le_refl _) (Nat.le_refl _) ?_
                    first
                      | exact rP_i (by rw [asA_v hq br15 br29, if_neg (by omega), if_pos ⟨by omega, (undA_s (by omega)).mpr br82⟩]; exact y5) rfl
                      | exact rP_i (by rw [asA_v hq br15 br29, if_neg (by omega), if_neg (fun z => br82 ((undA_s (by omega)).mp z.2))]) rfl
                  · refine V_aload dX11_as_85 rfl ?_
                    refine V_getfi dX11_as_87 sf_RX11_137 rfl y3 ?_
                    refine V_goto (tgt := 95) dX11_as_90 (by decide) ?_
                    refine V_iret dX11_as_95 rfl (Nat.le_refl _) (Nat.le_refl _) ?_
                    first
                      | exact rP_i (by rw [asA_v hq br15 br29, if_neg (by omega), if_pos ⟨by omega, (undA_s (by omega)).mpr br82⟩]; exact y5) rfl
                      | exact rP_i (by rw [asA_v hq br15 br29, if_neg (by omega), if_neg (fun z => br82 ((undA_s (by omega)).mp z.2))]) rfl
            · cases br45
          · refine V_bipush dX11_as_32 (by decide) ?_
            refine V_iret dX11_as_34 rfl (Nat.le_refl _) (Nat.le_refl _) ?_
            exact rP_i (by unfold asA; rw [if_pos hq, if_neg (fun z => by first | exact br15 z.1 | exact br29 z.2)]) rfl
      · exact absurd hq br4
    · refine V_iload_n dX11_as_0 rfl ?_
      refine V_callS dX11_as_1 (c_isPeg g _ _ (by omega)) ss_RX11_299 rfl ⟨⟨by decide, by decide⟩, ⟨by decide, by decide⟩⟩ (Nat.le_of_ble_eq_true rfl) (fun r1 s1 p1 => ?_)
      obtain ⟨rfl, rfl⟩ := p1
      refine V_ifneB (tgt := 9) dX11_as_4 (by decide) (fun br4 => ?_) (fun br4 => ?_)
      · refine V_iload_n dX11_as_9 rfl ?_
        refine V_iconst dX11_as_10 ?_
        refine V_iconst dX11_as_11 ?_
        refine V_callS dX11_as_12 (c_isIn g _ _ _ _ (by omega) (by omega) (by omega)) ss_RX11_107 rfl ⟨⟨by decide, by decide⟩, ⟨by decide, by decide⟩⟩ (Nat.le_of_ble_eq_true rfl) (fun r12 s12 p12 => ?_)
        obtain ⟨rfl, rfl⟩ := p12
        refine V_ifeqB (tgt := 32) dX11_as_15 (by decide) (fun br15 => ?_) (fun br15 => ?_)
        · refine V_bipush dX11_as_32 (by decide) ?_
          refine V_iret dX11_as_34 rfl (Nat.le_refl _) (Nat.le_refl _) ?_
          exact rP_i (by unfold asA; rw [if_pos hq, if_neg (fun z => by first | exact br15 z.1 | exact br29 z.2)]) rfl
        · refine V_iload_n dX11_as_18 rfl ?_
          refine V_iconst dX11_as_19 ?_
          refine V_iload_n dX11_as_20 rfl ?_
          refine V_callS dX11_as_21 (c_kindsOf g _ _ (by omega)) ss_RX11_314 rfl ⟨⟨by decide, by decide⟩, ⟨by decide, by decide⟩⟩ (Nat.le_of_ble_eq_true rfl) (fun r21 s21 p21 => ?_)
          obtain ⟨rfl, rfl⟩ := p21
          refine V_iconst dX11_as_24 ?_
          refine V_isub dX11_as_25 ?_
          refine V_callS dX11_as_26 (c_isIn g _ _ _ _ (by omega) (by omega) (by omega)) ss_RX11_107 rfl ⟨⟨by decide, by decide⟩, ⟨by decide, by decide⟩⟩ (Nat.le_of_ble_eq_true rfl) (fun r26 s26 p26 => ?_)
          obtain ⟨rfl, rfl⟩ := p26
          refine V_ifneB (tgt := 35) dX11_as_29 (by decide) (fun br29 => ?_) (fun br29 => ?_)
          · refine V_aload_n dX11_as_35 rfl ?_
            refine V_getfr dX11_as_36 sf_RX11_27 (by decide) (sh hS rfl) (rf hS rfl) ?_
            refine V_iload_n dX11_as_39 rfl ?_
            refine V_aald dX11_as_40 (sh hS rfl) (by decide) (by omega) y1 ?_
            refine V_astore dX11_as_41 (by decide) rfl ?_
            refine V_aload dX11_as_43 rfl ?_
            refine V_ifnonnull (tgt := 51) dX11_as_45 (by decide) (fun a45 br45 => ?_) (fun br45 => ?_)
            · refine V_iload_n dX11_as_51 rfl ?_
              refine V_ifne (tgt := 96) dX11_as_52 (by decide) (by omega) (fun br52 => ?_) (fun br52 => ?_)
              · refine V_iload_n dX11_as_96 rfl ?_
                refine V_iconst dX11_as_97 ?_
                refine V_icmpne (tgt := 142) dX11_as_98 (by decide) (by omega) (by omega) (fun br98 => ?_) (fun br98 => ?_)
                · refine V_iload_n dX11_as_142 rfl ?_
                  refine V_iconst dX11_as_143 ?_
                  refine V_icmpne (tgt := 168) dX11_as_144 (by decide) (by omega) (by omega) (fun br144 => ?_) (fun br144 => ?_)
                  · refine V_bipush dX11_as_168 (by decide) ?_
                    refine V_iret dX11_as_170 rfl (Nat.le_refl _) (Nat.le_refl _) ?_
                    exact rP_i (by rw [asA_v hq br15 br29, if_neg (by omega), if_neg (fun z => by omega)]) rfl
                  · refine V_aload dX11_as_147 rfl ?_
                    refine V_instNo dX11_as_149 sl_RX11_96 y3 ⟨_, rfl, by decide⟩ ?_
                    refine V_ifeq (tgt := 168) dX11_as_152 (by decide) (by omega) (fun br152 => ?_) (fun br152 => ?_)
                    · refine V_bipush dX11_as_168 (by decide) ?_
                      refine V_iret dX11_as_170 rfl (Nat.le_refl _) (Nat.le_refl _) ?_
                      exact rP_i (by rw [asA_v hq br15 br29, if_neg (by omega), if_neg (fun z => by omega)]) rfl
                    · omega
                · refine V_aload dX11_as_101 rfl ?_
                  refine V_instY dX11_as_103 sl_RX11_84 y3 ⟨_, rfl, rfl⟩ ?_
                  refine V_ifeq (tgt := 142) dX11_as_106 (by decide) (by omega) (fun br106 => ?_) (fun br106 => ?_)
                  · omega
                  · refine V_aload dX11_as_109 rfl ?_
                    refine V_castY dX11_as_111 sl_RX11_84 y3 ⟨_, rfl, rfl⟩ ?_
                    refine V_astore dX11_as_114 (by decide) rfl ?_
                    refine V_aload dX11_as_116 rfl ?_
                    refine V_getfi dX11_as_118 sf_RX11_229 rfl y3 ?_
                    refine V_val (show _ = aK A peg.toNat from y4) ?_
                    refine V_iload_n dX11_as_121 rfl ?_
                    refine V_gets (a := 3) dX11_as_122 (by decide) sg_RX11_324 ?_
                    refine V_callS dX11_as_125 (c_underH g _ (aK A peg.toNat) kind (by omega) (by have := k1 (by omega); omega)) ss_RX11_320 rfl ⟨⟨by decide, by decide⟩, ⟨by decide, by decide⟩⟩ (Nat.le_of_ble_eq_true rfl) (fun r125 s125 p125 => ?_)
                    obtain ⟨rfl, rfl⟩ := p125
                    refine V_ifeqB (tgt := 139) dX11_as_128 (by decide) (fun br128 => ?_) (fun br128 => ?_)
                    · refine V_bipush dX11_as_139 (by decide) ?_
                      refine V_iret dX11_as_141 rfl (Nat.le_refl _) (Nat.le_refl _) ?_
                      first
                        | exact rP_i (by rw [asA_v hq br15 br29, if_neg (by omega), if_pos ⟨by omega, (undA_h (by omega)).mpr br128⟩]; exact y5) rfl
                        | exact rP_i (by rw [asA_v hq br15 br29, if_neg (by omega), if_neg (fun z => br128 ((undA_h (by omega)).mp z.2))]) rfl
                    · refine V_aload dX11_as_131 rfl ?_
                      refine V_getfi dX11_as_133 sf_RX11_230 rfl y3 ?_
                      refine V_goto (tgt := 141) dX11_as_136 (by decide) ?_
                      refine V_iret dX11_as_141 rfl (Nat.le_refl _) (Nat.le_refl _) ?_
                      first
                        | exact rP_i (by rw [asA_v hq br15 br29, if_neg (by omega), if_pos ⟨by omega, (undA_h (by omega)).mpr br128⟩]; exact y5) rfl
                        | exact rP_i (by rw [asA_v hq br15 br29, if_neg (by omega), if_neg (fun z => br128 ((undA_h (by omega)).mp z.2))]) rfl
              · refine V_aload dX11_as_55 rfl ?_
                refine V_instNo dX11_as_57 sl_RX11_71 y3 ⟨_, rfl, by decide⟩ ?_
                refine V_ifeq (tgt := 96) dX11_as_60 (by decide) (by omega) (fun br60 => ?_) (fun br60 => ?_)
                · refine V_iload_n dX11_as_96 rfl ?_
                  refine V_iconst dX11_as_97 ?_
                  refine V_icmpne (tgt := 142) dX11_as_98 (by decide) (by omega) (by omega) (fun br98 => ?_) (fun br98 => ?_)
                  · refine V_iload_n dX11_as_142 rfl ?_
                    refine V_iconst dX11_as_143 ?_
                    refine V_icmpne (tgt := 168) dX11_as_144 (by decide) (by omega) (by omega) (fun br144 => ?_) (fun br144 => ?_)
                    · refine V_bipush dX11_as_168 (by decide) ?_
                      refine V_iret dX11_as_170 rfl (Nat.le_refl _) (Nat.le_refl _) ?_
                      exact rP_i (by rw [asA_v hq br15 br29, if_neg (by omega), if_neg (fun z => by omega)]) rfl
                    · refine V_aload dX11_as_147 rfl ?_
                      refine V_instNo dX11_as_149 sl_RX11_96 y3 ⟨_, rfl, by decide⟩ ?_
                      refine V_ifeq (tgt := 168) dX11_as_152 (by decide) (by omega) (fun br152 => ?_) (fun br152 => ?_)
                      · refine V_bipush dX11_as_168 (by decide) ?_
                        refine V_iret dX11_as_170 rfl (Nat.le_refl _) (Nat.le_refl _) ?_
                        exact rP_i (by rw [asA_v hq br15 br29, if_neg (by omega), if_neg (fun z => by omega)]) rfl
                      · omega
                  · refine V_aload dX11_as_101 rfl ?_
                    refine V_instY dX11_as_103 sl_RX11_84 y3 ⟨_, rfl, rfl⟩ ?_
                    refine V_ifeq (tgt := 142) dX11_as_106 (by decide) (by omega) (fun br106 => ?_) (fun br106 => ?_)
                    · omega
                    · refine V_aload dX11_as_109 rfl ?_
                      refine V_castY dX11_as_111 sl_RX11_84 y3 ⟨_, rfl, rfl⟩ ?_
                      refine V_astore dX11_as_114 (by decide) rfl ?_
                      refine V_aload dX11_as_116 rfl ?_
                      refine V_getfi dX11_as_118 sf_RX11_229 rfl y3 ?_
                      refine V_val (show _ = aK A peg.toNat from y4) ?_
                      refine V_iload_n dX11_as_121 rfl ?_
                      refine V_gets (a := 3) dX11_as_122 (by decide) sg_RX11_324 ?_
                      refine V_callS dX11_as_125 (c_underH g _ (aK A peg.toNat) kind (by omega) (by have := k1 (by omega); omega)) ss_RX11_320 rfl ⟨⟨by decide, by decide⟩, ⟨by decide, by decide⟩⟩ (Nat.le_of_ble_eq_true rfl) (fun r125 s125 p125 => ?_)
                      obtain ⟨rfl, rfl⟩ := p125
                      refine V_ifeqB (tgt := 139) dX11_as_128 (by decide) (fun br128 => ?_) (fun br128 => ?_)
                      · refine V_bipush dX11_as_139 (by decide) ?_
                        refine V_iret dX11_as_141 rfl (Nat.le_refl _) (Nat.le_refl _) ?_
                        first
                          | exact rP_i (by rw [asA_v hq br15 br29, if_neg (by omega), if_pos ⟨by omega, (undA_h (by omega)).mpr br128⟩]; exact y5) rfl
                          | exact rP_i (by rw [asA_v hq br15 br29, if_neg (by omega), if_neg (fun z => br128 ((undA_h (by omega)).mp z.2))]) rfl
                      · refine V_aload dX11_as_131 rfl ?_
                        refine V_getfi dX11_as_133 sf_RX11_230 rfl y3 ?_
                        refine V_goto (tgt := 141) dX11_as_136 (by decide) ?_
                        refine V_iret dX11_as_141 rfl (Nat.le_refl _) (Nat.le_refl _) ?_
                        first
                          | exact rP_i (by rw [asA_v hq br15 br29, if_neg (by omega), if_pos ⟨by omega, (undA_h (by omega)).mpr br128⟩]; exact y5) rfl
                          | exact rP_i (by rw [asA_v hq br15 br29, if_neg (by omega), if_neg (fun z => br128 ((undA_h (by omega)).mp z.2))]) rfl
                · omega
            · cases br45
          · refine V_bipush dX11_as_32 (by decide) ?_
            refine V_iret dX11_as_34 rfl (Nat.le_refl _) (Nat.le_refl _) ?_
            exact rP_i (by unfold asA; rw [if_pos hq, if_neg (fun z => by first | exact br15 z.1 | exact br29 z.2)]) rfl
      · exact absurd hq br4
    · refine V_iload_n dX11_as_0 rfl ?_
      refine V_callS dX11_as_1 (c_isPeg g _ _ (by omega)) ss_RX11_299 rfl ⟨⟨by decide, by decide⟩, ⟨by decide, by decide⟩⟩ (Nat.le_of_ble_eq_true rfl) (fun r1 s1 p1 => ?_)
      obtain ⟨rfl, rfl⟩ := p1
      refine V_ifneB (tgt := 9) dX11_as_4 (by decide) (fun br4 => ?_) (fun br4 => ?_)
      · refine V_iload_n dX11_as_9 rfl ?_
        refine V_iconst dX11_as_10 ?_
        refine V_iconst dX11_as_11 ?_
        refine V_callS dX11_as_12 (c_isIn g _ _ _ _ (by omega) (by omega) (by omega)) ss_RX11_107 rfl ⟨⟨by decide, by decide⟩, ⟨by decide, by decide⟩⟩ (Nat.le_of_ble_eq_true rfl) (fun r12 s12 p12 => ?_)
        obtain ⟨rfl, rfl⟩ := p12
        refine V_ifeqB (tgt := 32) dX11_as_15 (by decide) (fun br15 => ?_) (fun br15 => ?_)
        · refine V_bipush dX11_as_32 (by decide) ?_
          refine V_iret dX11_as_34 rfl (Nat.le_refl _) (Nat.le_refl _) ?_
          exact rP_i (by unfold asA; rw [if_pos hq, if_neg (fun z => by first | exact br15 z.1 | exact br29 z.2)]) rfl
        · refine V_iload_n dX11_as_18 rfl ?_
          refine V_iconst dX11_as_19 ?_
          refine V_iload_n dX11_as_20 rfl ?_
          refine V_callS dX11_as_21 (c_kindsOf g _ _ (by omega)) ss_RX11_314 rfl ⟨⟨by decide, by decide⟩, ⟨by decide, by decide⟩⟩ (Nat.le_of_ble_eq_true rfl) (fun r21 s21 p21 => ?_)
          obtain ⟨rfl, rfl⟩ := p21
          refine V_iconst dX11_as_24 ?_
          refine V_isub dX11_as_25 ?_
          refine V_callS dX11_as_26 (c_isIn g _ _ _ _ (by omega) (by omega) (by omega)) ss_RX11_107 rfl ⟨⟨by decide, by decide⟩, ⟨by decide, by decide⟩⟩ (Nat.le_of_ble_eq_true rfl) (fun r26 s26 p26 => ?_)
          obtain ⟨rfl, rfl⟩ := p26
          refine V_ifneB (tgt := 35) dX11_as_29 (by decide) (fun br29 => ?_) (fun br29 => ?_)
          · refine V_aload_n dX11_as_35 rfl ?_
            refine V_getfr dX11_as_36 sf_RX11_27 (by decide) (sh hS rfl) (rf hS rfl) ?_
            refine V_iload_n dX11_as_39 rfl ?_
            refine V_aald dX11_as_40 (sh hS rfl) (by decide) (by omega) y1 ?_
            refine V_astore dX11_as_41 (by decide) rfl ?_
            refine V_aload dX11_as_43 rfl ?_
            refine V_ifnonnull (tgt := 51) dX11_as_45 (by decide) (fun a45 br45 => ?_) (fun br45 => ?_)
            · refine V_iload_n dX11_as_51 rfl ?_
              refine V_ifne (tgt := 96) dX11_as_52 (by decide) (by omega) (fun br52 => ?_) (fun br52 => ?_)
              · refine V_iload_n dX11_as_96 rfl ?_
                refine V_iconst dX11_as_97 ?_
                refine V_icmpne (tgt := 142) dX11_as_98 (by decide) (by omega) (by omega) (fun br98 => ?_) (fun br98 => ?_)
                · refine V_iload_n dX11_as_142 rfl ?_
                  refine V_iconst dX11_as_143 ?_
                  refine V_icmpne (tgt := 168) dX11_as_144 (by decide) (by omega) (by omega) (fun br144 => ?_) (fun br144 => ?_)
                  · refine V_bipush dX11_as_168 (by decide) ?_
                    refine V_iret dX11_as_170 rfl (Nat.le_refl _) (Nat.le_refl _) ?_
                    exact rP_i (by rw [asA_v hq br15 br29, if_neg (by omega), if_neg (fun z => by omega)]) rfl
                  · refine V_aload dX11_as_147 rfl ?_
                    refine V_instY dX11_as_149 sl_RX11_96 y3 ⟨_, rfl, rfl⟩ ?_
                    refine V_ifeq (tgt := 168) dX11_as_152 (by decide) (by omega) (fun br152 => ?_) (fun br152 => ?_)
                    · omega
                    · refine V_aload dX11_as_155 rfl ?_
                      refine V_castY dX11_as_157 sl_RX11_96 y3 ⟨_, rfl, rfl⟩ ?_
                      refine V_astore dX11_as_160 (by decide) rfl ?_
                      refine V_aload dX11_as_162 rfl ?_
                      refine V_getfi dX11_as_164 sf_RX11_327 rfl y3 ?_
                      refine V_iret dX11_as_167 rfl (Nat.le_refl _) (Nat.le_refl _) ?_
                      exact rP_i (by rw [asA_v hq br15 br29, if_neg (by omega), if_pos ⟨by omega, Or.inl (by have := k2 (by omega); omega)⟩]; exact y4) rfl
                · refine V_aload dX11_as_101 rfl ?_
                  refine V_instNo dX11_as_103 sl_RX11_84 y3 ⟨_, rfl, by decide⟩ ?_
                  refine V_ifeq (tgt := 142) dX11_as_106 (by decide) (by omega) (fun br106 => ?_) (fun br106 => ?_)
                  · refine V_iload_n dX11_as_142 rfl ?_
                    refine V_iconst dX11_as_143 ?_
                    refine V_icmpne (tgt := 168) dX11_as_144 (by decide) (by omega) (by omega) (fun br144 => ?_) (fun br144 => ?_)
                    · refine V_bipush dX11_as_168 (by decide) ?_
                      refine V_iret dX11_as_170 rfl (Nat.le_refl _) (Nat.le_refl _) ?_
                      exact rP_i (by rw [asA_v hq br15 br29, if_neg (by omega), if_neg (fun z => by omega)]) rfl
                    · refine V_aload dX11_as_147 rfl ?_
                      refine V_instY dX11_as_149 sl_RX11_96 y3 ⟨_, rfl, rfl⟩ ?_
                      refine V_ifeq (tgt := 168) dX11_as_152 (by decide) (by omega) (fun br152 => ?_) (fun br152 => ?_)
                      · omega
                      · refine V_aload dX11_as_155 rfl ?_
                        refine V_castY dX11_as_157 sl_RX11_96 y3 ⟨_, rfl, rfl⟩ ?_
                        refine V_astore dX11_as_160 (by decide) rfl ?_
                        refine V_aload dX11_as_162 rfl ?_
                        refine V_getfi dX11_as_164 sf_RX11_327 rfl y3 ?_
                        refine V_iret dX11_as_167 rfl (Nat.le_refl _) (Nat.le_refl _) ?_
                        exact rP_i (by rw [asA_v hq br15 br29, if_neg (by omega), if_pos ⟨by omega, Or.inl (by have := k2 (by omega); omega)⟩]; exact y4) rfl
                  · omega
              · refine V_aload dX11_as_55 rfl ?_
                refine V_instNo dX11_as_57 sl_RX11_71 y3 ⟨_, rfl, by decide⟩ ?_
                refine V_ifeq (tgt := 96) dX11_as_60 (by decide) (by omega) (fun br60 => ?_) (fun br60 => ?_)
                · refine V_iload_n dX11_as_96 rfl ?_
                  refine V_iconst dX11_as_97 ?_
                  refine V_icmpne (tgt := 142) dX11_as_98 (by decide) (by omega) (by omega) (fun br98 => ?_) (fun br98 => ?_)
                  · refine V_iload_n dX11_as_142 rfl ?_
                    refine V_iconst dX11_as_143 ?_
                    refine V_icmpne (tgt := 168) dX11_as_144 (by decide) (by omega) (by omega) (fun br144 => ?_) (fun br144 => ?_)
                    · refine V_bipush dX11_as_168 (by decide) ?_
                      refine V_iret dX11_as_170 rfl (Nat.le_refl _) (Nat.le_refl _) ?_
                      exact rP_i (by rw [asA_v hq br15 br29, if_neg (by omega), if_neg (fun z => by omega)]) rfl
                    · refine V_aload dX11_as_147 rfl ?_
                      refine V_instY dX11_as_149 sl_RX11_96 y3 ⟨_, rfl, rfl⟩ ?_
                      refine V_ifeq (tgt := 168) dX11_as_152 (by decide) (by omega) (fun br152 => ?_) (fun br152 => ?_)
                      · omega
                      · refine V_aload dX11_as_155 rfl ?_
                        refine V_castY dX11_as_157 sl_RX11_96 y3 ⟨_, rfl, rfl⟩ ?_
                        refine V_astore dX11_as_160 (by decide) rfl ?_
                        refine V_aload dX11_as_162 rfl ?_
                        refine V_getfi dX11_as_164 sf_RX11_327 rfl y3 ?_
                        refine V_iret dX11_as_167 rfl (Nat.le_refl _) (Nat.le_refl _) ?_
                        exact rP_i (by rw [asA_v hq br15 br29, if_neg (by omega), if_pos ⟨by omega, Or.inl (by have := k2 (by omega); omega)⟩]; exact y4) rfl
                  · refine V_aload dX11_as_101 rfl ?_
                    refine V_instNo dX11_as_103 sl_RX11_84 y3 ⟨_, rfl, by decide⟩ ?_
                    refine V_ifeq (tgt := 142) dX11_as_106 (by decide) (by omega) (fun br106 => ?_) (fun br106 => ?_)
                    · refine V_iload_n dX11_as_142 rfl ?_
                      refine V_iconst dX11_as_143 ?_
                      refine V_icmpne (tgt := 168) dX11_as_144 (by decide) (by omega) (by omega) (fun br144 => ?_) (fun br144 => ?_)
                      · refine V_bipush dX11_as_168 (by decide) ?_
                        refine V_iret dX11_as_170 rfl (Nat.le_refl _) (Nat.le_refl _) ?_
                        exact rP_i (by rw [asA_v hq br15 br29, if_neg (by omega), if_neg (fun z => by omega)]) rfl
                      · refine V_aload dX11_as_147 rfl ?_
                        refine V_instY dX11_as_149 sl_RX11_96 y3 ⟨_, rfl, rfl⟩ ?_
                        refine V_ifeq (tgt := 168) dX11_as_152 (by decide) (by omega) (fun br152 => ?_) (fun br152 => ?_)
                        · omega
                        · refine V_aload dX11_as_155 rfl ?_
                          refine V_castY dX11_as_157 sl_RX11_96 y3 ⟨_, rfl, rfl⟩ ?_
                          refine V_astore dX11_as_160 (by decide) rfl ?_
                          refine V_aload dX11_as_162 rfl ?_
                          refine V_getfi dX11_as_164 sf_RX11_327 rfl y3 ?_
                          refine V_iret dX11_as_167 rfl (Nat.le_refl _) (Nat.le_refl _) ?_
                          exact rP_i (by rw [asA_v hq br15 br29, if_neg (by omega), if_pos ⟨by omega, Or.inl (by have := k2 (by omega); omega)⟩]; exact y4) rfl
                    · omega
                · omega
            · cases br45
          · refine V_bipush dX11_as_32 (by decide) ?_
            refine V_iret dX11_as_34 rfl (Nat.le_refl _) (Nat.le_refl _) ?_
            exact rP_i (by unfold asA; rw [if_pos hq, if_neg (fun z => by first | exact br15 z.1 | exact br29 z.2)]) rfl
      · exact absurd hq br4
    · refine V_iload_n dX11_as_0 rfl ?_
      refine V_callS dX11_as_1 (c_isPeg g _ _ (by omega)) ss_RX11_299 rfl ⟨⟨by decide, by decide⟩, ⟨by decide, by decide⟩⟩ (Nat.le_of_ble_eq_true rfl) (fun r1 s1 p1 => ?_)
      obtain ⟨rfl, rfl⟩ := p1
      refine V_ifneB (tgt := 9) dX11_as_4 (by decide) (fun br4 => ?_) (fun br4 => ?_)
      · refine V_iload_n dX11_as_9 rfl ?_
        refine V_iconst dX11_as_10 ?_
        refine V_iconst dX11_as_11 ?_
        refine V_callS dX11_as_12 (c_isIn g _ _ _ _ (by omega) (by omega) (by omega)) ss_RX11_107 rfl ⟨⟨by decide, by decide⟩, ⟨by decide, by decide⟩⟩ (Nat.le_of_ble_eq_true rfl) (fun r12 s12 p12 => ?_)
        obtain ⟨rfl, rfl⟩ := p12
        refine V_ifeqB (tgt := 32) dX11_as_15 (by decide) (fun br15 => ?_) (fun br15 => ?_)
        · refine V_bipush dX11_as_32 (by decide) ?_
          refine V_iret dX11_as_34 rfl (Nat.le_refl _) (Nat.le_refl _) ?_
          exact rP_i (by unfold asA; rw [if_pos hq, if_neg (fun z => by first | exact br15 z.1 | exact br29 z.2)]) rfl
        · refine V_iload_n dX11_as_18 rfl ?_
          refine V_iconst dX11_as_19 ?_
          refine V_iload_n dX11_as_20 rfl ?_
          refine V_callS dX11_as_21 (c_kindsOf g _ _ (by omega)) ss_RX11_314 rfl ⟨⟨by decide, by decide⟩, ⟨by decide, by decide⟩⟩ (Nat.le_of_ble_eq_true rfl) (fun r21 s21 p21 => ?_)
          obtain ⟨rfl, rfl⟩ := p21
          refine V_iconst dX11_as_24 ?_
          refine V_isub dX11_as_25 ?_
          refine V_callS dX11_as_26 (c_isIn g _ _ _ _ (by omega) (by omega) (by omega)) ss_RX11_107 rfl ⟨⟨by decide, by decide⟩, ⟨by decide, by decide⟩⟩ (Nat.le_of_ble_eq_true rfl) (fun r26 s26 p26 => ?_)
          obtain ⟨rfl, rfl⟩ := p26
          refine V_ifneB (tgt := 35) dX11_as_29 (by decide) (fun br29 => ?_) (fun br29 => ?_)
          · refine V_aload_n dX11_as_35 rfl ?_
            refine V_getfr dX11_as_36 sf_RX11_27 (by decide) (sh hS rfl) (rf hS rfl) ?_
            refine V_iload_n dX11_as_39 rfl ?_
            refine V_aald dX11_as_40 (sh hS rfl) (by decide) (by omega) y1 ?_
            refine V_astore dX11_as_41 (by decide) rfl ?_
            refine V_aload dX11_as_43 rfl ?_
            refine V_ifnonnull (tgt := 51) dX11_as_45 (by decide) (fun a45 br45 => ?_) (fun br45 => ?_)
            · refine V_iload_n dX11_as_51 rfl ?_
              refine V_ifne (tgt := 96) dX11_as_52 (by decide) (by omega) (fun br52 => ?_) (fun br52 => ?_)
              · refine V_iload_n dX11_as_96 rfl ?_
                refine V_iconst dX11_as_97 ?_
                refine V_icmpne (tgt := 142) dX11_as_98 (by decide) (by omega) (by omega) (fun br98 => ?_) (fun br98 => ?_)
                · refine V_iload_n dX11_as_142 rfl ?_
                  refine V_iconst dX11_as_143 ?_
                  refine V_icmpne (tgt := 168) dX11_as_144 (by decide) (by omega) (by omega) (fun br144 => ?_) (fun br144 => ?_)
                  · refine V_bipush dX11_as_168 (by decide) ?_
                    refine V_iret dX11_as_170 rfl (Nat.le_refl _) (Nat.le_refl _) ?_
                    exact rP_i (by rw [asA_v hq br15 br29, if_neg (by omega), if_neg (fun z => by omega)]) rfl
                  · refine V_aload dX11_as_147 rfl ?_
                    refine V_instNo dX11_as_149 sl_RX11_96 y3 ⟨_, rfl, by decide⟩ ?_
                    refine V_ifeq (tgt := 168) dX11_as_152 (by decide) (by omega) (fun br152 => ?_) (fun br152 => ?_)
                    · refine V_bipush dX11_as_168 (by decide) ?_
                      refine V_iret dX11_as_170 rfl (Nat.le_refl _) (Nat.le_refl _) ?_
                      exact rP_i (by rw [asA_v hq br15 br29, if_neg (by omega), if_neg (fun z => by omega)]) rfl
                    · omega
                · refine V_aload dX11_as_101 rfl ?_
                  refine V_instNo dX11_as_103 sl_RX11_84 y3 ⟨_, rfl, by decide⟩ ?_
                  refine V_ifeq (tgt := 142) dX11_as_106 (by decide) (by omega) (fun br106 => ?_) (fun br106 => ?_)
                  · refine V_iload_n dX11_as_142 rfl ?_
                    refine V_iconst dX11_as_143 ?_
                    refine V_icmpne (tgt := 168) dX11_as_144 (by decide) (by omega) (by omega) (fun br144 => ?_) (fun br144 => ?_)
                    · refine V_bipush dX11_as_168 (by decide) ?_
                      refine V_iret dX11_as_170 rfl (Nat.le_refl _) (Nat.le_refl _) ?_
                      exact rP_i (by rw [asA_v hq br15 br29, if_neg (by omega), if_neg (fun z => by omega)]) rfl
                    · refine V_aload dX11_as_147 rfl ?_
                      refine V_instNo dX11_as_149 sl_RX11_96 y3 ⟨_, rfl, by decide⟩ ?_
                      refine V_ifeq (tgt := 168) dX11_as_152 (by decide) (by omega) (fun br152 => ?_) (fun br152 => ?_)
                      · refine V_bipush dX11_as_168 (by decide) ?_
                        refine V_iret dX11_as_170 rfl (Nat.le_refl _) (Nat.le_refl _) ?_
                        exact rP_i (by rw [asA_v hq br15 br29, if_neg (by omega), if_neg (fun z => by omega)]) rfl
                      · omega
                  · omega
              · refine V_aload dX11_as_55 rfl ?_
                refine V_instNo dX11_as_57 sl_RX11_71 y3 ⟨_, rfl, by decide⟩ ?_
                refine V_ifeq (tgt := 96) dX11_as_60 (by decide) (by omega) (fun br60 => ?_) (fun br60 => ?_)
                · refine V_iload_n dX11_as_96 rfl ?_
                  refine V_iconst dX11_as_97 ?_
                  refine V_icmpne (tgt := 142) dX11_as_98 (by decide) (by omega) (by omega) (fun br98 => ?_) (fun br98 => ?_)
                  · refine V_iload_n dX11_as_142 rfl ?_
                    refine V_iconst dX11_as_143 ?_
                    refine V_icmpne (tgt := 168) dX11_as_144 (by decide) (by omega) (by omega) (fun br144 => ?_) (fun br144 => ?_)
                    · refine V_bipush dX11_as_168 (by decide) ?_
                      refine V_iret dX11_as_170 rfl (Nat.le_refl _) (Nat.le_refl _) ?_
                      exact rP_i (by rw [asA_v hq br15 br29, if_neg (by omega), if_neg (fun z => by omega)]) rfl
                    · refine V_aload dX11_as_147 rfl ?_
                      refine V_instNo dX11_as_149 sl_RX11_96 y3 ⟨_, rfl, by decide⟩ ?_
                      refine V_ifeq (tgt := 168) dX11_as_152 (by decide) (by omega) (fun br152 => ?_) (fun br152 => ?_)
                      · refine V_bipush dX11_as_168 (by decide) ?_
                        refine V_iret dX11_as_170 rfl (Nat.le_refl _) (Nat.le_refl _) ?_
                        exact rP_i (by rw [asA_v hq br15 br29, if_neg (by omega), if_neg (fun z => by omega)]) rfl
                      · omega
                  · refine V_aload dX11_as_101 rfl ?_
                    refine V_instNo dX11_as_103 sl_RX11_84 y3 ⟨_, rfl, by decide⟩ ?_
                    refine V_ifeq (tgt := 142) dX11_as_106 (by decide) (by omega) (fun br106 => ?_) (fun br106 => ?_)
                    · refine V_iload_n dX11_as_142 rfl ?_
                      refine V_iconst dX11_as_143 ?_
                      refine V_icmpne (tgt := 168) dX11_as_144 (by decide) (by omega) (by omega) (fun br144 => ?_) (fun br144 => ?_)
                      · refine V_bipush dX11_as_168 (by decide) ?_
                        refine V_iret dX11_as_170 rfl (Nat.le_refl _) (Nat.le_refl _) ?_
                        exact rP_i (by rw [asA_v hq br15 br29, if_neg (by omega), if_neg (fun z => by omega)]) rfl
                      · refine V_aload dX11_as_147 rfl ?_
                        refine V_instNo dX11_as_149 sl_RX11_96 y3 ⟨_, rfl, by decide⟩ ?_
                        refine V_ifeq (tgt := 168) dX11_as_152 (by decide) (by omega) (fun br152 => ?_) (fun br152 => ?_)
                        · refine V_bipush dX11_as_168 (by decide) ?_
                          refine V_iret dX11_as_170 rfl (Nat.le_refl _) (Nat.le_refl _) ?_
                          exact rP_i (by rw [asA_v hq br15 br29, if_neg (by omega), if_neg (fun z => by omega)]) rfl
                        · omega
                    · omega
                · omega
            · cases br45
          · refine V_bipush dX11_as_32 (by decide) ?_
            refine V_iret dX11_as_34 rfl (Nat.le_refl _) (Nat.le_refl _) ?_
            exact rP_i (by unfold asA; rw [if_pos hq, if_neg (fun z => by first | exact br15 z.1 | exact br29 z.2)]) rfl
      · exact absurd hq br4
  · refine V_iload_n dX11_as_0 rfl ?_
    refine V_callS dX11_as_1 (c_isPeg g _ _ (by omega)) ss_RX11_299 rfl ⟨⟨by decide, by decide⟩, ⟨by decide, by decide⟩⟩ (Nat.le_of_ble_eq_true rfl) (fun r1 s1 p1 => ?_)
    obtain ⟨rfl, rfl⟩ := p1
    refine V_ifneB (tgt := 9) dX11_as_4 (by decide) (fun br4 => ?_) (fun br4 => ?_)
    · exact absurd br4 hq
    · refine V_iconst dX11_as_7 ?_
      refine V_iret dX11_as_8 rfl (Nat.le_refl _) (Nat.le_refl _) ?_
      exact rP_i (if_neg hq).symm rfl
def lackR (A : Ab) (peg s p : Int) : Int := if (0 ≤ peg ∧ peg ≤ 5) ∧ ¬ (okSet (aW A) s ∧ (0 ≤ p ∧ p ≤ 99)) then -2 else lackA A peg
theorem c_lackForRing (g : Gl) (σ : St) (A : Ab) (N : Nat) (hC : CL σ A) (hA : AI A N) (peg s p : Int) (h1 : inR peg) (h2 : inR s) (h3 : inR p) : Ct g mX11_lackForRing 3 0 0 [vq (some 8), vi peg, vi s, vi p] σ (rP (vi (lackR A peg s p)) σ) := by
  refine Ct.of (by decide +kernel) (Nat.le_of_ble_eq_true rfl) ?_
  have hX := hC.xs hA
  have hS := hX.1
  have rest : ∀ v : Int, (v = 1 ∧ okSet (aW A) s ∧ (0 ≤ p ∧ p ≤ 99)) ∨ (v = 0 ∧ ¬ (okSet (aW A) s ∧ (0 ≤ p ∧ p ≤ 99))) →
      V g mX11_lackForRing (rmD 3 0 0) (QM g 0 0 (rP (vi (lackR A peg s p)) σ)) 20 [some (vq (some 8)), some (vi peg), none, none, none] [vi v] 0 0 σ := by
    intro v hv
    refine V_istore dX11_lackForRing_20 (by decide) rfl ?_
    refine V_iload_n dX11_lackForRing_22 rfl ?_
    refine V_callS dX11_lackForRing_23 (c_isPeg g _ peg h1) ss_RX11_299 rfl ⟨⟨by decide, by decide⟩, ⟨by decide, by decide⟩⟩ (Nat.le_of_ble_eq_true rfl) (fun r23 s23 p23 => ?_)
    obtain ⟨rfl, rfl⟩ := p23
    refine V_ifeqB (tgt := 39) dX11_lackForRing_26 (by decide) (fun br26 => ?_) (fun br26 => ?_)
    · refine V_aload_n dX11_lackForRing_39 rfl ?_
      refine V_iload_n dX11_lackForRing_40 rfl ?_
      refine V_callV dX11_lackForRing_41 (c_lackOfTray g _ A hC peg h1) sv_RX11_332 (sh hS rfl) rfl ⟨⟨by decide, by decide⟩, ⟨by decide, by decide⟩⟩ (Nat.le_of_ble_eq_true rfl) (fun r41 s41 p41 => ?_)
      obtain ⟨rfl, rfl⟩ := p41
      refine V_iret dX11_lackForRing_44 rfl (Nat.le_refl _) (Nat.le_refl _) ?_
      unfold lackR
      first
        | exact rP_i (if_pos ⟨br26, fun z => by rcases hv with q | q <;> first | omega | exact q.2 z⟩).symm rfl
        | exact rP_i (if_neg (fun z => by first | exact br26 z.1 | (rcases hv with q | q <;> first | omega | exact z.2 q.2))).symm rfl
    · refine V_iload dX11_lackForRing_29 rfl ?_
      refine V_ifne (tgt := 39) dX11_lackForRing_31 (by decide) (by omega) (fun br31 => ?_) (fun br31 => ?_)
      · refine V_aload_n dX11_lackForRing_39 rfl ?_
        refine V_iload_n dX11_lackForRing_40 rfl ?_
        refine V_callV dX11_lackForRing_41 (c_lackOfTray g _ A hC peg h1) sv_RX11_332 (sh hS rfl) rfl ⟨⟨by decide, by decide⟩, ⟨by decide, by decide⟩⟩ (Nat.le_of_ble_eq_true rfl) (fun r41 s41 p41 => ?_)
        obtain ⟨rfl, rfl⟩ := p41
        refine V_iret dX11_lackForRing_44 rfl (Nat.le_refl _) (Nat.le_refl _) ?_
        unfold lackR
        first
          | exact rP_i (if_pos ⟨br26, fun z => by rcases hv with q | q <;> first | omega | exact q.2 z⟩).symm rfl
          | exact rP_i (if_neg (fun z => by first | exact br26 z.1 | (rcases hv with q | q <;> first | omega | exact z.2 q.2))).symm rfl
      · refine V_bipush dX11_lackForRing_34 (by decide) ?_
        refine V_goto (tgt := 44) dX11_lackForRing_36 (by decide) ?_
        refine V_iret dX11_lackForRing_44 rfl (Nat.le_refl _) (Nat.le_refl _) ?_
        unfold lackR
        first
          | exact rP_i (if_pos ⟨br26, fun z => by rcases hv with q | q <;> first | omega | exact q.2 z⟩).symm rfl
          | exact rP_i (if_neg (fun z => by first | exact br26 z.1 | (rcases hv with q | q <;> first | omega | exact z.2 q.2))).symm rfl
  refine V_aload_n dX11_lackForRing_0 rfl ?_
  refine V_iload_n dX11_lackForRing_1 rfl ?_
  refine V_callV dX11_lackForRing_2 (c_isRingSet g _ (aW A) hX s h2) sv_RX11_188 (sh hS rfl) rfl ⟨⟨by decide, by decide⟩, ⟨by decide, by decide⟩⟩ (Nat.le_of_ble_eq_true rfl) (fun r2 s2 p2 => ?_)
  obtain ⟨rfl, rfl⟩ := p2
  refine V_ifeqB (tgt := 19) dX11_lackForRing_5 (by decide) (fun br5 => ?_) (fun br5 => ?_)
  · refine V_iconst dX11_lackForRing_19 ?_
    refine V_mask [true, true, false, false, false] ?_
    exact rest _ (by first | exact Or.inl ⟨rfl, br5, br12⟩ | exact Or.inr ⟨rfl, fun z => by first | exact br5 z.1 | exact br12 z.2⟩)
  · refine V_iload_n dX11_lackForRing_8 rfl ?_
    refine V_callS dX11_lackForRing_9 (c_isPress g _ _ (by omega)) ss_RX11_191 rfl ⟨⟨by decide, by decide⟩, ⟨by decide, by decide⟩⟩ (Nat.le_of_ble_eq_true rfl) (fun r9 s9 p9 => ?_)
    obtain ⟨rfl, rfl⟩ := p9
    refine V_ifeqB (tgt := 19) dX11_lackForRing_12 (by decide) (fun br12 => ?_) (fun br12 => ?_)
    · refine V_iconst dX11_lackForRing_19 ?_
      refine V_mask [true, true, false, false, false] ?_
      exact rest _ (by first | exact Or.inl ⟨rfl, br5, br12⟩ | exact Or.inr ⟨rfl, fun z => by first | exact br5 z.1 | exact br12 z.2⟩)
    · refine V_iconst dX11_lackForRing_15 ?_
      refine V_goto (tgt := 20) dX11_lackForRing_16 (by decide) ?_
      refine V_mask [true, true, false, false, false] ?_
      exact rest _ (by first | exact Or.inl ⟨rfl, br5, br12⟩ | exact Or.inr ⟨rfl, fun z => by first | exact br5 z.1 | exact br12 z.2⟩)