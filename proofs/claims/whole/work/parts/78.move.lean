def moveV (A : Ab) (p i q j n : Int) : Int := if (0 ≤ p ∧ p ≤ 5) ∧ (0 ≤ q ∧ q ≤ 5) then (if aP A p.toNat = 0 ∨ aP A q.toNat = 0 then -11 else if aP A p.toNat < 4 ∨ aP A q.toNat ≠ aP A p.toNat then -13 else if (0 ≤ n ∧ 0 ≤ i ∧ 0 ≤ j) ∧ i + n ≤ aZ A p.toNat ∧ j + n ≤ aZ A q.toNat then n else -12) else -1
abbrev okMv (A : Ab) (p i q j n : Int) : Prop := ((0 ≤ p ∧ p ≤ 5) ∧ (0 ≤ q ∧ q ≤ 5)) ∧ (4 ≤ aP A p.toNat ∧ aP A q.toNat = aP A p.toNat) ∧ (0 ≤ n ∧ 0 ≤ i ∧ 0 ≤ j) ∧ i + n ≤ aZ A p.toNat ∧ j + n ≤ aZ A q.toNat
def moveN (A : Ab) (p i q j n : Int) : Ab := if okMv A p i q j n then xN A (va_cpy (aX A) (aX A) (30 * p.toNat + i.toNat) (30 * q.toNat + j.toNat) n.toNat) else A
theorem c_move (g : Gl) (σ : St) (A : Ab) (N : Nat) (hC : CL σ A) (hA : AI A N) (p i q j n : Int) (h1 : inR p) (h2 : inR i) (h3 : inR q) (h4 : inR j) (h5 : inR n) : Ct g mX11_move 3 0 0 [vq (some 8), vi p, vi i, vi q, vi j, vi n] σ (PC (moveV A p i q j n) (moveN A p i q j n) σ) := by
  refine Ct.of (by decide +kernel) (Nat.le_of_ble_eq_true rfl) ?_
  have hS := hC.1
  have no : ∀ v, ¬ okMv A p i q j n → v = moveV A p i q j n → PC (moveV A p i q j n) (moveN A p i q j n) σ (some (vi v)) σ := fun v z e => by
    unfold moveN
    rw [if_neg z, ← e]
    exact PC_i rfl hC (FM.rf _)
  by_cases hp : 0 ≤ p ∧ p ≤ 5
  · by_cases hq : 0 ≤ q ∧ q ≤ 5
    · have Pp := hC.2.2.2.2.2.2.2.2.1 p.toNat (by omega)
      have Pq := hC.2.2.2.2.2.2.2.2.1 q.toNat (by omega)
      have bp := (hA.2.2.2.2.2.2 p.toNat (by omega)).1
      have bq := (hA.2.2.2.2.2.2 q.toNat (by omega)).1
      have eV : moveV A p i q j n = if aP A p.toNat = 0 ∨ aP A q.toNat = 0 then -11 else if aP A p.toNat < 4 ∨ aP A q.toNat ≠ aP A p.toNat then -13 else if (0 ≤ n ∧ 0 ≤ i ∧ 0 ≤ j) ∧ i + n ≤ aZ A p.toNat ∧ j + n ≤ aZ A q.toNat then n else -12 := if_pos ⟨hp, hq⟩
      rcases Pp.nil with ⟨xp, yp⟩ | ⟨xp, b, yp⟩
      · refine V_iload_n dX11_move_0 rfl ?_
        refine V_callS dX11_move_1 (c_isPeg g _ _ (by omega)) ss_RX11_299 rfl ⟨⟨by decide, by decide⟩, ⟨by decide, by decide⟩⟩ (Nat.le_of_ble_eq_true rfl) (fun r1 s1 p1 => ?_)
        obtain ⟨rfl, rfl⟩ := p1
        refine V_ifeqB (tgt := 14) dX11_move_4 (by decide) (fun br4 => ?_) (fun br4 => ?_)
        · exact absurd hp br4
        · refine V_iload_n dX11_move_7 rfl ?_
          refine V_callS dX11_move_8 (c_isPeg g _ _ (by omega)) ss_RX11_299 rfl ⟨⟨by decide, by decide⟩, ⟨by decide, by decide⟩⟩ (Nat.le_of_ble_eq_true rfl) (fun r8 s8 p8 => ?_)
          obtain ⟨rfl, rfl⟩ := p8
          refine V_ifneB (tgt := 16) dX11_move_11 (by decide) (fun br11 => ?_) (fun br11 => ?_)
          · refine V_aload_n dX11_move_16 rfl ?_
            refine V_getfr dX11_move_17 sf_RX11_27 (by decide) (sh hS rfl) (rf hS rfl) ?_
            refine V_iload_n dX11_move_20 rfl ?_
            refine V_aald dX11_move_21 (sh hS rfl) (by decide) (by omega) yp ?_
            refine V_ifnull (tgt := 34) dX11_move_22 (by decide) (fun br22 => ?_) (fun a22 br22 => ?_)
            · refine V_bipush dX11_move_34 (by decide) ?_
              refine V_iret dX11_move_36 rfl (Nat.le_refl _) (Nat.le_refl _) ?_
              exact no _ (fun z => by omega) (by rw [eV, if_pos (Or.inl xp)])
            · cases br22
          · exact absurd hq br11
      · rcases Pq.nil with ⟨xq, yq⟩ | ⟨xq, d, yq⟩
        · refine V_iload_n dX11_move_0 rfl ?_
          refine V_callS dX11_move_1 (c_isPeg g _ _ (by omega)) ss_RX11_299 rfl ⟨⟨by decide, by decide⟩, ⟨by decide, by decide⟩⟩ (Nat.le_of_ble_eq_true rfl) (fun r1 s1 p1 => ?_)
          obtain ⟨rfl, rfl⟩ := p1
          refine V_ifeqB (tgt := 14) dX11_move_4 (by decide) (fun br4 => ?_) (fun br4 => ?_)
          · exact absurd hp br4
          · refine V_iload_n dX11_move_7 rfl ?_
            refine V_callS dX11_move_8 (c_isPeg g _ _ (by omega)) ss_RX11_299 rfl ⟨⟨by decide, by decide⟩, ⟨by decide, by decide⟩⟩ (Nat.le_of_ble_eq_true rfl) (fun r8 s8 p8 => ?_)
            obtain ⟨rfl, rfl⟩ := p8
            refine V_ifneB (tgt := 16) dX11_move_11 (by decide) (fun br11 => ?_) (fun br11 => ?_)
            · refine V_aload_n dX11_move_16 rfl ?_
              refine V_getfr dX11_move_17 sf_RX11_27 (by decide) (sh hS rfl) (rf hS rfl) ?_
              refine V_iload_n dX11_move_20 rfl ?_
              refine V_aald dX11_move_21 (sh hS rfl) (by decide) (by omega) yp ?_
              refine V_ifnull (tgt := 34) dX11_move_22 (by decide) (fun br22 => ?_) (fun a22 br22 => ?_)
              · cases br22
              · refine V_aload_n dX11_move_25 rfl ?_
                refine V_getfr dX11_move_26 sf_RX11_27 (by decide) (sh hS rfl) (rf hS rfl) ?_
                refine V_iload_n dX11_move_29 rfl ?_
                refine V_aald dX11_move_30 (sh hS rfl) (by decide) (by omega) yq ?_
                refine V_ifnonnull (tgt := 37) dX11_move_31 (by decide) (fun a31 br31 => ?_) (fun br31 => ?_)
                · cases br31
                · refine V_bipush dX11_move_34 (by decide) ?_
                  refine V_iret dX11_move_36 rfl (Nat.le_refl _) (Nat.le_refl _) ?_
                  exact no _ (fun z => by omega) (by rw [eV, if_pos (Or.inr xq)])
            · exact absurd hq br11
        · by_cases tp : 4 ≤ aP A p.toNat
          · obtain ⟨x45, b', c, m, y1, y2, y3, y4, y5, y6, y7, y8, y9, y10⟩ := Pp.tray tp
            have hTp : TY σ b' c m (aP A p.toNat - 4) := ⟨y3, y4, y5, y7, y9⟩
            by_cases tq : 4 ≤ aP A q.toNat
            · obtain ⟨w45, d', e, l, w1, w2, w3, w4, w5, w6, w7, w8, w9, w10⟩ := Pq.tray tq
              have hTq : TY σ d' e l (aP A q.toNat - 4) := ⟨w3, w4, w5, w7, w9⟩
              refine V_iload_n dX11_move_0 rfl ?_
              refine V_callS dX11_move_1 (c_isPeg g _ _ (by omega)) ss_RX11_299 rfl ⟨⟨by decide, by decide⟩, ⟨by decide, by decide⟩⟩ (Nat.le_of_ble_eq_true rfl) (fun r1 s1 p1 => ?_)
              obtain ⟨rfl, rfl⟩ := p1
              refine V_ifeqB (tgt := 14) dX11_move_4 (by decide) (fun br4 => ?_) (fun br4 => ?_)
              · exact absurd hp br4
              · refine V_iload_n dX11_move_7 rfl ?_
                refine V_callS dX11_move_8 (c_isPeg g _ _ (by omega)) ss_RX11_299 rfl ⟨⟨by decide, by decide⟩, ⟨by decide, by decide⟩⟩ (Nat.le_of_ble_eq_true rfl) (fun r8 s8 p8 => ?_)
                obtain ⟨rfl, rfl⟩ := p8
                refine V_ifneB (tgt := 16) dX11_move_11 (by decide) (fun br11 => ?_) (fun br11 => ?_)
                · refine V_aload_n dX11_move_16 rfl ?_
                  refine V_getfr dX11_move_17 sf_RX11_27 (by decide) (sh hS rfl) (rf hS rfl) ?_
                  refine V_iload_n dX11_move_20 rfl ?_
                  refine V_aald dX11_move_21 (sh hS rfl) (by decide) (by omega) y1 ?_
                  refine V_ifnull (tgt := 34) dX11_move_22 (by decide) (fun br22 => ?_) (fun a22 br22 => ?_)
                  · cases br22
                  · refine V_aload_n dX11_move_25 rfl ?_
                    refine V_getfr dX11_move_26 sf_RX11_27 (by decide) (sh hS rfl) (rf hS rfl) ?_
                    refine V_iload_n dX11_move_29 rfl ?_
                    refine V_aald dX11_move_30 (sh hS rfl) (by decide) (by omega) w1 ?_
                    refine V_ifnonnull (tgt := 37) dX11_move_31 (by decide) (fun a31 br31 => ?_) (fun br31 => ?_)
                    · refine V_aload_n dX11_move_37 rfl ?_
                      refine V_iload_n dX11_move_38 rfl ?_
                      refine V_callV dX11_move_39 (c_trayAt g _ hS p hp b' y1 y3) sv_RX11_328 (sh hS rfl) rfl ⟨⟨by decide, by decide⟩, ⟨by decide, by decide⟩⟩ (Nat.le_of_ble_eq_true rfl) (fun r39 s39 p39 => ?_)
                      obtain ⟨rfl, rfl⟩ := p39
                      refine V_astore dX11_move_42 (by decide) rfl ?_
                      refine V_aload_n dX11_move_44 rfl ?_
                      refine V_iload_n dX11_move_45 rfl ?_
                      refine V_callV dX11_move_46 (c_trayAt g _ hS q hq d' w1 w3) sv_RX11_328 (sh hS rfl) rfl ⟨⟨by decide, by decide⟩, ⟨by decide, by decide⟩⟩ (Nat.le_of_ble_eq_true rfl) (fun r46 s46 p46 => ?_)
                      obtain ⟨rfl, rfl⟩ := p46
                      refine V_astore dX11_move_49 (by decide) rfl ?_
                      refine V_aload dX11_move_51 rfl ?_
                      refine V_ifnull (tgt := 74) dX11_move_53 (by decide) (fun br53 => ?_) (fun a53 br53 => ?_)
                      · cases br53
                      · refine V_aload dX11_move_56 rfl ?_
                        refine V_ifnull (tgt := 74) dX11_move_58 (by decide) (fun br58 => ?_) (fun a58 br58 => ?_)
                        · cases br58
                        · refine V_aload dX11_move_61 rfl ?_
                          refine V_getfi dX11_move_63 sf_RX11_358 rfl y3 ?_
                          refine V_val (show _ = aP A p.toNat - 4 from y4) ?_
                          refine V_aload dX11_move_66 rfl ?_
                          refine V_getfi dX11_move_68 sf_RX11_358 rfl w3 ?_
                          refine V_val (show _ = aP A q.toNat - 4 from w4) ?_
                          refine V_icmpeq (tgt := 77) dX11_move_71 (by decide) (by omega) (by omega) (fun br71 => ?_) (fun br71 => ?_)
                          · refine V_aload dX11_move_77 rfl ?_
                            refine V_iload_n dX11_move_79 rfl ?_
                            refine V_iload dX11_move_80 rfl ?_
                            refine V_callV dX11_move_82 (c_hasRun g _ b' c m _ hTp i n h2 h5) sv_RX11_361 y3 rfl ⟨⟨by decide, by decide⟩, ⟨by decide, by decide⟩⟩ (Nat.le_of_ble_eq_true rfl) (fun r82 s82 p82 => ?_)
                            obtain ⟨rfl, rfl⟩ := p82
                            refine V_ifeqB (tgt := 100) dX11_move_85 (by decide) (fun br85 => ?_) (fun br85 => ?_)
                            · refine V_bipush dX11_move_100 (by decide) ?_
                              refine V_iret dX11_move_102 rfl (Nat.le_refl _) (Nat.le_refl _) ?_
                              exact no _ (fun z => by first | exact br85 (by omega) | exact br97 (by omega)) (by rw [eV, if_neg (by omega), if_neg (by omega), if_neg (fun z => by first | exact br85 (by omega) | exact br97 (by omega))])
                            · refine V_aload dX11_move_88 rfl ?_
                              refine V_iload dX11_move_90 rfl ?_
                              refine V_iload dX11_move_92 rfl ?_
                              refine V_callV dX11_move_94 (c_hasRun g _ d' e l _ hTq j n h4 h5) sv_RX11_361 w3 rfl ⟨⟨by decide, by decide⟩, ⟨by decide, by decide⟩⟩ (Nat.le_of_ble_eq_true rfl) (fun r94 s94 p94 => ?_)
                              obtain ⟨rfl, rfl⟩ := p94
                              refine V_ifneB (tgt := 103) dX11_move_97 (by decide) (fun br97 => ?_) (fun br97 => ?_)
                              · refine V_aload dX11_move_103 rfl ?_
                                refine V_getfr dX11_move_105 sf_RX11_342 (by decide) y3 y5 ?_
                                refine V_iload_n dX11_move_108 rfl ?_
                                refine V_aload dX11_move_109 rfl ?_
                                refine V_getfr dX11_move_111 sf_RX11_342 (by decide) w3 w5 ?_
                                refine V_iload dX11_move_114 rfl ?_
                                refine V_iload dX11_move_116 rfl ?_
                                refine V_copyl dX11_move_118 sw_acl y7 w7 (by omega) (by decide) (Nat.le_of_ble_eq_true rfl) ?_
                                refine V_iload dX11_move_121 rfl ?_
                                refine V_iret dX11_move_123 rfl (Nat.le_refl _) (Nat.le_refl _) ?_
                                have hok : okMv A p i q j n := ⟨⟨hp, hq⟩, ⟨tp, by omega⟩, ⟨by omega, by omega, by omega⟩, by omega, by omega⟩
                                unfold moveN
                                rw [eV, if_neg (by omega), if_neg (by omega), if_pos ⟨⟨by omega, by omega, by omega⟩, by omega, by omega⟩, if_pos hok]
                                refine PC_i rfl (hC.items (by omega) tq w1 w5 (fun t ht => ?_) (fun s t hs hsq ht => ?_)) ((FM.rf _).onL _ (by omega))
                                · unfold va_cpy
                                  by_cases h : j.toNat ≤ t ∧ t < j.toNat + n.toNat
                                  · rw [if_pos h, if_pos (by omega), show 30 * p.toNat + i.toNat + (30 * q.toNat + t - (30 * q.toNat + j.toNat)) = 30 * p.toNat + (i.toNat + (t - j.toNat)) by omega]
                                    exact y10 _ (by omega)
                                  · rw [if_neg h, if_neg (by omega)]
                                    exact w10 _ (by omega)
                                · unfold va_cpy
                                  rw [if_neg (by omega)]
                              · refine V_bipush dX11_move_100 (by decide) ?_
                                refine V_iret dX11_move_102 rfl (Nat.le_refl _) (Nat.le_refl _) ?_
                                exact no _ (fun z => by first | exact br85 (by omega) | exact br97 (by omega)) (by rw [eV, if_neg (by omega), if_neg (by omega), if_neg (fun z => by first | exact br85 (by omega) | exact br97 (by omega))])
                          · refine V_bipush dX11_move_74 (by decide) ?_
                            refine V_iret dX11_move_76 rfl (Nat.le_refl _) (Nat.le_refl _) ?_
                            exact no _ (fun z => by omega) (by rw [eV, if_neg (by omega), if_pos (Or.inr (by omega))])
                    · cases br31
                · exact absurd hq br11
            · refine V_iload_n dX11_move_0 rfl ?_
              refine V_callS dX11_move_1 (c_isPeg g _ _ (by omega)) ss_RX11_299 rfl ⟨⟨by decide, by decide⟩, ⟨by decide, by decide⟩⟩ (Nat.le_of_ble_eq_true rfl) (fun r1 s1 p1 => ?_)
              obtain ⟨rfl, rfl⟩ := p1
              refine V_ifeqB (tgt := 14) dX11_move_4 (by decide) (fun br4 => ?_) (fun br4 => ?_)
              · exact absurd hp br4
              · refine V_iload_n dX11_move_7 rfl ?_
                refine V_callS dX11_move_8 (c_isPeg g _ _ (by omega)) ss_RX11_299 rfl ⟨⟨by decide, by decide⟩, ⟨by decide, by decide⟩⟩ (Nat.le_of_ble_eq_true rfl) (fun r8 s8 p8 => ?_)
                obtain ⟨rfl, rfl⟩ := p8
                refine V_ifneB (tgt := 16) dX11_move_11 (by decide) (fun br11 => ?_) (fun br11 => ?_)
                · refine V_aload_n dX11_move_16 rfl ?_
                  refine V_getfr dX11_move_17 sf_RX11_27 (by decide) (sh hS rfl) (rf hS rfl) ?_
                  refine V_iload_n dX11_move_20 rfl ?_
                  refine V_aald dX11_move_21 (sh hS rfl) (by decide) (by omega) y1 ?_
                  refine V_ifnull (tgt := 34) dX11_move_22 (by decide) (fun br22 => ?_) (fun a22 br22 => ?_)
                  · cases br22
                  · refine V_aload_n dX11_move_25 rfl ?_
                    refine V_getfr dX11_move_26 sf_RX11_27 (by decide) (sh hS rfl) (rf hS rfl) ?_
                    refine V_iload_n dX11_move_29 rfl ?_
                    refine V_aald dX11_move_30 (sh hS rfl) (by decide) (by omega) yq ?_
                    refine V_ifnonnull (tgt := 37) dX11_move_31 (by decide) (fun a31 br31 => ?_) (fun br31 => ?_)
                    · refine V_aload_n dX11_move_37 rfl ?_
                      refine V_iload_n dX11_move_38 rfl ?_
                      refine V_callV dX11_move_39 (c_trayAt g _ hS p hp b' y1 y3) sv_RX11_328 (sh hS rfl) rfl ⟨⟨by decide, by decide⟩, ⟨by decide, by decide⟩⟩ (Nat.le_of_ble_eq_true rfl) (fun r39 s39 p39 => ?_)
                      obtain ⟨rfl, rfl⟩ := p39
                      refine V_astore dX11_move_42 (by decide) rfl ?_
                      refine V_aload_n dX11_move_44 rfl ?_
                      refine V_iload_n dX11_move_45 rfl ?_
                      refine V_callV dX11_move_46 (c_trayNo g _ A hC q h3 (fun z => tq z.2)) sv_RX11_328 (sh hS rfl) rfl ⟨⟨by decide, by decide⟩, ⟨by decide, by decide⟩⟩ (Nat.le_of_ble_eq_true rfl) (fun r46 s46 p46 => ?_)
                      obtain ⟨rfl, rfl⟩ := p46
                      refine V_astore dX11_move_49 (by decide) rfl ?_
                      refine V_aload dX11_move_51 rfl ?_
                      refine V_ifnull (tgt := 74) dX11_move_53 (by decide) (fun br53 => ?_) (fun a53 br53 => ?_)
                      · cases br53
                      · refine V_aload dX11_move_56 rfl ?_
                        refine V_ifnull (tgt := 74) dX11_move_58 (by decide) (fun br58 => ?_) (fun a58 br58 => ?_)
                        · refine V_bipush dX11_move_74 (by decide) ?_
                          refine V_iret dX11_move_76 rfl (Nat.le_refl _) (Nat.le_refl _) ?_
                          exact no _ (fun z => by omega) (by rw [eV, if_neg (by omega), if_pos (Or.inr (by omega))])
                        · cases br58
                    · cases br31
                · exact absurd hq br11
          · by_cases tq : 4 ≤ aP A q.toNat
            · obtain ⟨w45, d', e, l, w1, w2, w3, w4, w5, w6, w7, w8, w9, w10⟩ := Pq.tray tq
              refine V_iload_n dX11_move_0 rfl ?_
              refine V_callS dX11_move_1 (c_isPeg g _ _ (by omega)) ss_RX11_299 rfl ⟨⟨by decide, by decide⟩, ⟨by decide, by decide⟩⟩ (Nat.le_of_ble_eq_true rfl) (fun r1 s1 p1 => ?_)
              obtain ⟨rfl, rfl⟩ := p1
              refine V_ifeqB (tgt := 14) dX11_move_4 (by decide) (fun br4 => ?_) (fun br4 => ?_)
              · exact absurd hp br4
              · refine V_iload_n dX11_move_7 rfl ?_
                refine V_callS dX11_move_8 (c_isPeg g _ _ (by omega)) ss_RX11_299 rfl ⟨⟨by decide, by decide⟩, ⟨by decide, by decide⟩⟩ (Nat.le_of_ble_eq_true rfl) (fun r8 s8 p8 => ?_)
                obtain ⟨rfl, rfl⟩ := p8
                refine V_ifneB (tgt := 16) dX11_move_11 (by decide) (fun br11 => ?_) (fun br11 => ?_)
                · refine V_aload_n dX11_move_16 rfl ?_
                  refine V_getfr dX11_move_17 sf_RX11_27 (by decide) (sh hS rfl) (rf hS rfl) ?_
                  refine V_iload_n dX11_move_20 rfl ?_
                  refine V_aald dX11_move_21 (sh hS rfl) (by decide) (by omega) yp ?_
                  refine V_ifnull (tgt := 34) dX11_move_22 (by decide) (fun br22 => ?_) (fun a22 br22 => ?_)
                  · cases br22
                  · refine V_aload_n dX11_move_25 rfl ?_
                    refine V_getfr dX11_move_26 sf_RX11_27 (by decide) (sh hS rfl) (rf hS rfl) ?_
                    refine V_iload_n dX11_move_29 rfl ?_
                    refine V_aald dX11_move_30 (sh hS rfl) (by decide) (by omega) yq ?_
                    refine V_ifnonnull (tgt := 37) dX11_move_31 (by decide) (fun a31 br31 => ?_) (fun br31 => ?_)
                    · refine V_aload_n dX11_move_37 rfl ?_
                      refine V_iload_n dX11_move_38 rfl ?_
                      refine V_callV dX11_move_39 (c_trayNo g _ A hC p h1 (fun z => tp z.2)) sv_RX11_328 (sh hS rfl) rfl ⟨⟨by decide, by decide⟩, ⟨by decide, by decide⟩⟩ (Nat.le_of_ble_eq_true rfl) (fun r39 s39 p39 => ?_)
                      obtain ⟨rfl, rfl⟩ := p39
                      refine V_astore dX11_move_42 (by decide) rfl ?_
                      refine V_aload_n dX11_move_44 rfl ?_
                      refine V_iload_n dX11_move_45 rfl ?_
                      refine V_callV dX11_move_46 (c_trayAt g _ hS q hq d' w1 w3) sv_RX11_328 (sh hS rfl) rfl ⟨⟨by decide, by decide⟩, ⟨by decide, by decide⟩⟩ (Nat.le_of_ble_eq_true rfl) (fun r46 s46 p46 => ?_)
                      obtain ⟨rfl, rfl⟩ := p46
                      refine V_astore dX11_move_49 (by decide) rfl ?_
                      refine V_aload dX11_move_51 rfl ?_
                      refine V_ifnull (tgt := 74) dX11_move_53 (by decide) (fun br53 => ?_) (fun a53 br53 => ?_)
                      · refine V_bipush dX11_move_74 (by decide) ?_
                        refine V_iret dX11_move_76 rfl (Nat.le_refl _) (Nat.le_refl _) ?_
                        exact no _ (fun z => by omega) (by rw [eV, if_neg (by omega), if_pos (Or.inl (by omega))])
                      · cases br53
                    · cases br31
                · exact absurd hq br11
            · refine V_iload_n dX11_move_0 rfl ?_
              refine V_callS dX11_move_1 (c_isPeg g _ _ (by omega)) ss_RX11_299 rfl ⟨⟨by decide, by decide⟩, ⟨by decide, by decide⟩⟩ (Nat.le_of_ble_eq_true rfl) (fun r1 s1 p1 => ?_)
              obtain ⟨rfl, rfl⟩ := p1
              refine V_ifeqB (tgt := 14) dX11_move_4 (by decide) (fun br4 => ?_) (fun br4 => ?_)
              · exact absurd hp br4
              · refine V_iload_n dX11_move_7 rfl ?_
                refine V_callS dX11_move_8 (c_isPeg g _ _ (by omega)) ss_RX11_299 rfl ⟨⟨by decide, by decide⟩, ⟨by decide, by decide⟩⟩ (Nat.le_of_ble_eq_true rfl) (fun r8 s8 p8 => ?_)
                obtain ⟨rfl, rfl⟩ := p8
                refine V_ifneB (tgt := 16) dX11_move_11 (by decide) (fun br11 => ?_) (fun br11 => ?_)
                · refine V_aload_n dX11_move_16 rfl ?_
                  refine V_getfr dX11_move_17 sf_RX11_27 (by decide) (sh hS rfl) (rf hS rfl) ?_
                  refine V_iload_n dX11_move_20 rfl ?_
                  refine V_aald dX11_move_21 (sh hS rfl) (by decide) (by omega) yp ?_
                  refine V_ifnull (tgt := 34) dX11_move_22 (by decide) (fun br22 => ?_) (fun a22 br22 => ?_)
                  · cases br22
                  · refine V_aload_n dX11_move_25 rfl ?_
                    refine V_getfr dX11_move_26 sf_RX11_27 (by decide) (sh hS rfl) (rf hS rfl) ?_
                    refine V_iload_n dX11_move_29 rfl ?_
                    refine V_aald dX11_move_30 (sh hS rfl) (by decide) (by omega) yq ?_
                    refine V_ifnonnull (tgt := 37) dX11_move_31 (by decide) (fun a31 br31 => ?_) (fun br31 => ?_)
                    · refine V_aload_n dX11_move_37 rfl ?_
                      refine V_iload_n dX11_move_38 rfl ?_
                      refine V_callV dX11_move_39 (c_trayNo g _ A hC p h1 (fun z => tp z.2)) sv_RX11_328 (sh hS rfl) rfl ⟨⟨by decide, by decide⟩, ⟨by decide, by decide⟩⟩ (Nat.le_of_ble_eq_true rfl) (fun r39 s39 p39 => ?_)
                      obtain ⟨rfl, rfl⟩ := p39
                      refine V_astore dX11_move_42 (by decide) rfl ?_
                      refine V_aload_n dX11_move_44 rfl ?_
                      refine V_iload_n dX11_move_45 rfl ?_
                      refine V_callV dX11_move_46 (c_trayNo g _ A hC q h3 (fun z => tq z.2)) sv_RX11_328 (sh hS rfl) rfl ⟨⟨by decide, by decide⟩, ⟨by decide, by decide⟩⟩ (Nat.le_of_ble_eq_true rfl) (fun r46 s46 p46 => ?_)
                      obtain ⟨rfl, rfl⟩ := p46
                      refine V_astore dX11_move_49 (by decide) rfl ?_
                      refine V_aload dX11_move_51 rfl ?_
                      refine V_ifnull (tgt := 74) dX11_move_53 (by decide) (fun br53 => ?_) (fun a53 br53 => ?_)
                      · refine V_bipush dX11_move_74 (by decide) ?_
                        refine V_iret dX11_move_76 rfl (Nat.le_refl _) (Nat.le_refl _) ?_
                        exact no _ (fun z => by omega) (by rw [eV, if_neg (by omega), if_pos (Or.inl (by omega))])
                      · cases br53
                    · cases br31
                · exact absurd hq br11
    · refine V_iload_n dX11_move_0 rfl ?_
      refine V_callS dX11_move_1 (c_isPeg g _ _ (by omega)) ss_RX11_299 rfl ⟨⟨by decide, by decide⟩, ⟨by decide, by decide⟩⟩ (Nat.le_of_ble_eq_true rfl) (fun r1 s1 p1 => ?_)
      obtain ⟨rfl, rfl⟩ := p1
      refine V_ifeqB (tgt := 14) dX11_move_4 (by decide) (fun br4 => ?_) (fun br4 => ?_)
      · refine V_iconst dX11_move_14 ?_
        refine V_iret dX11_move_15 rfl (Nat.le_refl _) (Nat.le_refl _) ?_
        exact no _ (fun z => by omega) (if_neg (fun z => hq z.2)).symm
      · refine V_iload_n dX11_move_7 rfl ?_
        refine V_callS dX11_move_8 (c_isPeg g _ _ (by omega)) ss_RX11_299 rfl ⟨⟨by decide, by decide⟩, ⟨by decide, by decide⟩⟩ (Nat.le_of_ble_eq_true rfl) (fun r8 s8 p8 => ?_)
        obtain ⟨rfl, rfl⟩ := p8
        refine V_ifneB (tgt := 16) dX11_move_11 (by decide) (fun br11 => ?_) (fun br11 => ?_)
        · exact absurd br11 hq
        · refine V_iconst dX11_move_14 ?_
          refine V_iret dX11_move_15 rfl (Nat.le_refl _) (Nat.le_refl _) ?_
          exact no _ (fun z => by omega) (if_neg (fun z => hq z.2)).symm
  · refine V_iload_n dX11_move_0 rfl ?_
    refine V_callS dX11_move_1 (c_isPeg g _ _ (by omega)) ss_RX11_299 rfl ⟨⟨by decide, by decide⟩, ⟨by decide, by decide⟩⟩ (Nat.le_of_ble_eq_true rfl) (fun r1 s1 p1 => ?_)
    obtain ⟨rfl, rfl⟩ := p1
    refine V_ifeqB (tgt := 14) dX11_move_4 (by decide) (fun br4 => ?_) (fun br4 => ?_)
    · refine V_iconst dX11_move_14 ?_
      refine V_iret dX11_move_15 rfl (Nat.le_refl _) (Nat.le_refl _) ?_
      exact no _ (fun z => by omega) (if_neg (fun z => hp z.1)).symm
    · exact absurd br4 hp