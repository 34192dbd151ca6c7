/-! what the class answers of girth, hoops, press, wet, driest -/
def girthA (w : Nat → Int) (h : Int) : Int := if 0 ≤ h ∧ h ≤ 8 then gir w h else -1
def restA (w : Nat → Int) (n : Nat) (what : Int) : Int := if dep w n = -5 then -5 else if what = 3 then hgt (dep w n) (w (64 + n)) else if what = 4 then grp w (dep w n) (w (58 + n)) else pressK (w (52 + n)) (grp w (dep w n) (w (58 + n)))
def ofHoopA (w : Nat → Int) (i what : Int) : Int := if 0 ≤ i ∧ i < w 5 then (if what = 0 then w (52 + i.toNat) else if what = 1 then w (58 + i.toNat) else if what = 2 then w (64 + i.toNat) else if 3 ≤ what ∧ what ≤ 5 then restA w i.toNat what else -1) else -1
def pressA (w : Nat → Int) (h : Int) : Int := if 0 ≤ h ∧ h ≤ 8 then min (prs w (nH w) h.toNat) 99 else -1
def tgt (w : Nat → Int) (s : Int) : Int := leastW true w s.toNat 0
def wetA (w : Nat → Int) (s : Int) : Int := if okSet w s then wetF (prs w (nH w)) (tgt w s) 9 else -2
def driestA (w : Nat → Int) (s most : Int) : Int := if okSet w s ∧ (1 ≤ most ∧ most ≤ 600) then (if 6 ≤ w 5 then -4 else (dryF w (prs w (nH w)) (tgt w s) most.toNat).1) else -2
theorem c_girth (g : Gl) (σ : St) (w : Nat → Int) (hX : XS σ w) (h : Int) (hh : inR h) : Ct g mX11_girth 2 0 0 [vq (some 8), vi h] σ (rP (vi (girthA w h)) σ) := by
  refine Ct.of (by decide +kernel) (Nat.le_of_ble_eq_true rfl) ?_
  have hS := hX.1
  refine V_iload_n dX11_girth_0 rfl ?_
  refine V_callS dX11_girth_1 (c_isHeight g _ _ (by omega)) ss_RX11_218 rfl ⟨⟨by decide, by decide⟩, ⟨by decide, by decide⟩⟩ (Nat.le_of_ble_eq_true rfl) (fun r1 s1 p1 => ?_)
  obtain ⟨rfl, rfl⟩ := p1
  refine V_ifeqB (tgt := 18) dX11_girth_4 (by decide) (fun br4 => ?_) (fun br4 => ?_)
  · refine V_iconst dX11_girth_18 ?_
    refine V_iret dX11_girth_19 rfl (Nat.le_refl _) (Nat.le_refl _) ?_
    first | exact rP_i (if_pos br4).symm rfl | exact rP_i (if_neg br4).symm rfl
  · refine V_aload_n dX11_girth_7 rfl ?_
    refine V_getfr dX11_girth_8 sf_RX11_12 (by decide) (sh hS rfl) (rf hS rfl) ?_
    refine V_iload_n dX11_girth_11 rfl ?_
    refine V_callS dX11_girth_12 (c_girthAt g _ w hX h br4) ss_RX11_221 rfl ⟨⟨by decide, by decide⟩, ⟨by decide, by decide⟩⟩ (Nat.le_of_ble_eq_true rfl) (fun r12 s12 p12 => ?_)
    obtain ⟨rfl, rfl⟩ := p12
    refine V_goto (tgt := 19) dX11_girth_15 (by decide) ?_
    refine V_iret dX11_girth_19 rfl (Nat.le_refl _) (Nat.le_refl _) ?_
    first | exact rP_i (if_pos br4).symm rfl | exact rP_i (if_neg br4).symm rfl
theorem c_ofResting (g : Gl) (σ : St) (w : Nat → Int) (hX : XS σ w) (hz : Z0 σ) (i : Nat) (hi : (i : Int) < w 5) (b : Nat) (hb93 : 93 ≤ b) (hbl : gl σ b = some (.inl 3)) (hbg : gG σ b 0 = w (52 + i) ∧ gG σ b 1 = w (58 + i) ∧ gG σ b 2 = w (64 + i)) (what : Int) (hw : 3 ≤ what ∧ what ≤ 5) :
    Ct g mX11_ofResting 4 0 0 [vq (some 8), vq (some b), vi (i : Int), vi what] σ (PW (restA w i what) σ) := by
  refine Ct.of (by decide +kernel) (Nat.le_of_ble_eq_true rfl) ?_
  have hS := hX.1
  have n5 := hX.n5
  have hk := hX.2.2.h hi
  have db := dep_b w i
  refine V_aload_n dX11_ofResting_0 rfl ?_
  refine V_getfr dX11_ofResting_1 sf_RX11_59 (by decide) (sh hS rfl) (rf hS rfl) ?_
  refine V_aload_n dX11_ofResting_4 rfl ?_
  refine V_getfr dX11_ofResting_5 sf_RX11_12 (by decide) (sh hS rfl) (rf hS rfl) ?_
  refine V_callV dX11_ofResting_8 (c_drive g _ w hX hz) sv_RX11_238 (sh hS rfl) rfl ⟨⟨by decide, by decide⟩, ⟨by decide, by decide⟩⟩ (Nat.le_of_ble_eq_true rfl) (fun r8 s8 p8 => ?_)
  obtain ⟨rfl, hK, hD⟩ := p8
  have hX1 := hK.xs hX
  have hS := hX1.1
  have hbl1 : gl s8 b = some (.inl 3) := by rw [hK.1]; exact hbl
  have ebg : ∀ k, gG s8 b k = gG σ b k := fun k => congrFun (hK.2.2.2.2.1 b (by omega)) k
  refine V_aload_n dX11_ofResting_11 rfl ?_
  refine V_getfr dX11_ofResting_12 sf_RX11_59 (by decide) (sh hS rfl) (rf hS rfl) ?_
  refine V_getfr dX11_ofResting_15 sf_RX11_390 (by decide) (sh hS rfl) (rf hS rfl) ?_
  refine V_iload_n dX11_ofResting_18 rfl ?_
  refine V_iald dX11_ofResting_19 (sh hS rfl) (by omega) ?_
  refine V_val (show _ = dep w i by rw [Int.toNat_natCast]; exact hD.1 i hi) ?_
  refine V_istore dX11_ofResting_20 (by decide) rfl ?_
  refine V_iload dX11_ofResting_22 rfl ?_
  refine V_bipush dX11_ofResting_24 (by decide) ?_
  refine V_icmpne (tgt := 32) dX11_ofResting_26 (by decide) (by omega) (by omega) (fun br26 => ?_) (fun br26 => ?_)
  · refine V_aload_n dX11_ofResting_32 rfl ?_
    refine V_getfr dX11_ofResting_33 sf_RX11_12 (by decide) (sh hS rfl) (rf hS rfl) ?_
    refine V_iload dX11_ofResting_36 rfl ?_
    refine V_aload_n dX11_ofResting_38 rfl ?_
    refine V_getfi dX11_ofResting_39 sf_RX11_230 rfl hbl1 ?_
    refine V_val (show _ = w (58 + i) from (ebg 1).trans hbg.2.1) ?_
    refine V_callS dX11_ofResting_42 (c_gripAt g _ w hX1 (dep w i) (w (58 + i)) (by omega) (by omega)) ss_RX11_393 rfl ⟨⟨by decide, by decide⟩, ⟨by decide, by decide⟩⟩ (Nat.le_of_ble_eq_true rfl) (fun r42 s42 p42 => ?_)
    obtain ⟨rfl, rfl⟩ := p42
    refine V_istore dX11_ofResting_45 (by decide) rfl ?_
    refine V_iload_n dX11_ofResting_47 rfl ?_
    refine V_lsw2 (td := 89) (t0 := 76) (t1 := 86) dX11_ofResting_48 (by omega) rfl (by decide) (by decide) (by decide) (fun br48_0 br48_1 => ?_) (fun br48 => ?_) (fun br48 => ?_)
    · refine V_aload_n dX11_ofResting_89 rfl ?_
      refine V_getfi dX11_ofResting_90 sf_RX11_229 rfl hbl1 ?_
      refine V_val (show _ = w (52 + i) from (ebg 0).trans hbg.1) ?_
      have gb := grp_b hX.2.2 (h := dep w i) (size := w (58 + i)) (by omega) (by omega)
      refine V_iload dX11_ofResting_93 rfl ?_
      refine V_callS dX11_ofResting_95 (c_presses g _ (w (52 + i)) (grp w (dep w i) (w (58 + i))) hk.1 (by omega)) ss_RX11_399 rfl ⟨⟨by decide, by decide⟩, ⟨by decide, by decide⟩⟩ (Nat.le_of_ble_eq_true rfl) (fun r95 s95 p95 => ?_)
      obtain ⟨rfl, rfl⟩ := p95
      refine V_iret dX11_ofResting_98 rfl (Nat.le_refl _) (Nat.le_refl _) ?_
      exact PW_i (by unfold restA; rw [if_neg br26, if_neg (by omega), if_neg (by omega)]) hK
    · refine V_iload dX11_ofResting_76 rfl ?_
      refine V_aload_n dX11_ofResting_78 rfl ?_
      refine V_getfi dX11_ofResting_79 sf_RX11_231 rfl hbl1 ?_
      refine V_val (show _ = w (64 + i) from (ebg 2).trans hbg.2.2) ?_
      refine V_callS dX11_ofResting_82 (c_heightOf g _ (dep w i) (w (64 + i)) (by omega)) ss_RX11_396 rfl ⟨⟨by decide, by decide⟩, ⟨by decide, by decide⟩⟩ (Nat.le_of_ble_eq_true rfl) (fun r82 s82 p82 => ?_)
      obtain ⟨rfl, rfl⟩ := p82
      refine V_iret dX11_ofResting_85 rfl (Nat.le_refl _) (Nat.le_refl _) ?_
      exact PW_i (by unfold restA; rw [if_neg br26, if_pos (by omega)]) hK
    · refine V_iload dX11_ofResting_86 rfl ?_
      refine V_iret dX11_ofResting_88 rfl (Nat.le_refl _) (Nat.le_refl _) ?_
      exact PW_i (by unfold restA; rw [if_neg br26, if_neg (by omega), if_pos (by omega)]) hK
  · refine V_bipush dX11_ofResting_29 (by decide) ?_
    refine V_iret dX11_ofResting_31 rfl (Nat.le_refl _) (Nat.le_refl _) ?_
    exact PW_i (if_pos br26).symm hK
theorem c_ofHoop (g : Gl) (σ : St) (w : Nat → Int) (hX : XS σ w) (hz : Z0 σ) (i what : Int) (hi : inR i) (hw : inR what) : Ct g mX11_ofHoop 5 0 0 [vq (some 8), vi i, vi what] σ (PW (ofHoopA w i what) σ) := by
  refine Ct.of (by decide +kernel) (Nat.le_of_ble_eq_true rfl) ?_
  have hS := hX.1
  by_cases hq : 0 ≤ i ∧ i < w 5
  · obtain ⟨b, hb, hb93, hbl, hbg, hbk⟩ := hX.h hq.1 hq.2
    obtain ⟨n, rfl⟩ : ∃ n : Nat, i = (n : Int) := ⟨i.toNat, by omega⟩
    have hA : ∀ x, (if what = 0 then w (52 + (n : Int).toNat) else if what = 1 then w (58 + (n : Int).toNat) else if what = 2 then w (64 + (n : Int).toNat) else if 3 ≤ what ∧ what ≤ 5 then restA w (n : Int).toNat what else -1) = x → ofHoopA w n what = x := fun x hx => (if_pos hq).trans hx
    rw [Int.toNat_natCast] at hbg hA
    refine V_aload_n dX11_ofHoop_0 rfl ?_
    refine V_getfr dX11_ofHoop_1 sf_RX11_12 (by decide) (sh hS rfl) (rf hS rfl) ?_
    refine V_iload_n dX11_ofHoop_4 rfl ?_
    refine V_callV dX11_ofHoop_5 (c_hAt hX hq.1 hq.2 hb) sv_RX11_225 (sh hS rfl) rfl ⟨⟨by decide, by decide⟩, ⟨by decide, by decide⟩⟩ (Nat.le_of_ble_eq_true rfl) (fun r5 s5 p5 => ?_)
    obtain ⟨rfl, rfl⟩ := p5
    refine V_astore_n dX11_ofHoop_8 (by decide) rfl ?_
    refine V_aload_n dX11_ofHoop_9 rfl ?_
    refine V_ifnonnull (tgt := 15) dX11_ofHoop_10 (by decide) (fun a10 br10 => ?_) (fun br10 => ?_)
    · cases br10
      refine V_iload_n dX11_ofHoop_15 rfl ?_
      refine V_tsw6 (td := 79) (t0 := 56) (t1 := 61) (t2 := 66) (t3 := 71) (t4 := 71) (t5 := 71) dX11_ofHoop_16 (by omega) rfl (by decide) (by decide) (by decide) (by decide) (by decide) (by decide) (by decide) (fun br16 => ?_) (fun br16 => ?_) (fun br16 => ?_) (fun br16 => ?_) (fun br16 => ?_) (fun br16 => ?_) (fun br16 => ?_)
      · refine V_iconst dX11_ofHoop_79 ?_
        refine V_iret dX11_ofHoop_80 rfl (Nat.le_refl _) (Nat.le_refl _) ?_
        exact PW_i (hA _ (by rw [if_neg (by omega), if_neg (by omega), if_neg (by omega), if_neg (by omega)])).symm (XW.rf hz)
      · refine V_aload_n dX11_ofHoop_56 rfl ?_
        refine V_getfi dX11_ofHoop_57 sf_RX11_229 rfl hbl ?_
        refine V_iret dX11_ofHoop_60 rfl (Nat.le_refl _) (Nat.le_refl _) ?_
        exact PW_i (by rw [hbg.1]; exact (hA _ (if_pos (by omega))).symm) (XW.rf hz)
      · refine V_aload_n dX11_ofHoop_61 rfl ?_
        refine V_getfi dX11_ofHoop_62 sf_RX11_230 rfl hbl ?_
        refine V_iret dX11_ofHoop_65 rfl (Nat.le_refl _) (Nat.le_refl _) ?_
        exact PW_i (by rw [hbg.2.1]; exact (hA _ (by rw [if_neg (by omega), if_pos (by omega)])).symm) (XW.rf hz)
      · refine V_aload_n dX11_ofHoop_66 rfl ?_
        refine V_getfi dX11_ofHoop_67 sf_RX11_231 rfl hbl ?_
        refine V_iret dX11_ofHoop_70 rfl (Nat.le_refl _) (Nat.le_refl _) ?_
        exact PW_i (by rw [hbg.2.2]; exact (hA _ (by rw [if_neg (by omega), if_neg (by omega), if_pos (by omega)])).symm) (XW.rf hz)
      · refine V_aload_n dX11_ofHoop_71 rfl ?_
        refine V_aload_n dX11_ofHoop_72 rfl ?_
        refine V_iload_n dX11_ofHoop_73 rfl ?_
        refine V_iload_n dX11_ofHoop_74 rfl ?_
        refine V_callV dX11_ofHoop_75 (c_ofResting g _ w hX hz n hq.2 b hb93 hbl hbg what (by omega)) sv_RX11_234 (sh hS rfl) rfl ⟨⟨by decide, by decide⟩, ⟨by decide, by decide⟩⟩ (Nat.le_of_ble_eq_true rfl) (fun r75 s75 p75 => ?_)
        obtain ⟨rfl, hK⟩ := p75
        refine V_iret dX11_ofHoop_78 rfl (Nat.le_refl _) (Nat.le_refl _) ?_
        exact PW_i (hA _ (by rw [if_neg (by omega), if_neg (by omega), if_neg (by omega), if_pos (by omega)])).symm hK
      · refine V_aload_n dX11_ofHoop_71 rfl ?_
        refine V_aload_n dX11_ofHoop_72 rfl ?_
        refine V_iload_n dX11_ofHoop_73 rfl ?_
        refine V_iload_n dX11_ofHoop_74 rfl ?_
        refine V_callV dX11_ofHoop_75 (c_ofResting g _ w hX hz n hq.2 b hb93 hbl hbg what (by omega)) sv_RX11_234 (sh hS rfl) rfl ⟨⟨by decide, by decide⟩, ⟨by decide, by decide⟩⟩ (Nat.le_of_ble_eq_true rfl) (fun r75 s75 p75 => ?_)
        obtain ⟨rfl, hK⟩ := p75
        refine V_iret dX11_ofHoop_78 rfl (Nat.le_refl _) (Nat.le_refl _) ?_
        exact PW_i (hA _ (by rw [if_neg (by omega), if_neg (by omega), if_neg (by omega), if_pos (by omega)])).symm hK
      · refine V_aload_n dX11_ofHoop_71 rfl ?_
        refine V_aload_n dX11_ofHoop_72 rfl ?_
        refine V_iload_n dX11_ofHoop_73 rfl ?_
        refine V_iload_n dX11_ofHoop_74 rfl ?_
        refine V_callV dX11_ofHoop_75 (c_ofResting g _ w hX hz n hq.2 b hb93 hbl hbg what (by omega)) sv_RX11_234 (sh hS rfl) rfl ⟨⟨by decide, by decide⟩, ⟨by decide, by decide⟩⟩ (Nat.le_of_ble_eq_true rfl) (fun r75 s75 p75 => ?_)
        obtain ⟨rfl, hK⟩ := p75
        refine V_iret dX11_ofHoop_78 rfl (Nat.le_refl _) (Nat.le_refl _) ?_
        exact PW_i (hA _ (by rw [if_neg (by omega), if_neg (by omega), if_neg (by omega), if_pos (by omega)])).symm hK
    · cases br10
  · refine V_aload_n dX11_ofHoop_0 rfl ?_
    refine V_getfr dX11_ofHoop_1 sf_RX11_12 (by decide) (sh hS rfl) (rf hS rfl) ?_
    refine V_iload_n dX11_ofHoop_4 rfl ?_
    refine V_callV dX11_ofHoop_5 (c_hNo hX hi hq) sv_RX11_225 (sh hS rfl) rfl ⟨⟨by decide, by decide⟩, ⟨by decide, by decide⟩⟩ (Nat.le_of_ble_eq_true rfl) (fun r5 s5 p5 => ?_)
    obtain ⟨rfl, rfl⟩ := p5
    refine V_astore_n dX11_ofHoop_8 (by decide) rfl ?_
    refine V_aload_n dX11_ofHoop_9 rfl ?_
    refine V_ifnonnull (tgt := 15) dX11_ofHoop_10 (by decide) (fun a10 br10 => ?_) (fun br10 => ?_)
    · cases br10
    · refine V_iconst dX11_ofHoop_13 ?_
      refine V_iret dX11_ofHoop_14 rfl (Nat.le_refl _) (Nat.le_refl _) ?_
      exact PW_i (if_neg hq).symm (XW.rf hz)
theorem DR.k {τ υ : St} {w : Nat → Int} (h : DR τ w) (hK : XK τ υ) : DR υ w := ⟨fun j hj => (congrFun (hK.2.2.2.2.1 70 (by decide)) j).trans (h.1 j hj), fun j hj => (congrFun (hK.2.2.2.2.1 71 (by decide)) j).trans (h.2 j hj)⟩
theorem DR.p {τ : St} {w : Nat → Int} (hW : WF w) (h : DR τ w) : ∀ k, k < 9 → gG τ 71 k = prs w (nH w) k ∧ 0 ≤ prs w (nH w) k ∧ prs w (nH w) k ≤ 10000 := fun k hk => by
  have hnH : nH w = (w 5).toNat := rfl
  have n5 := hW.2.2.2.2.2.1
  have := prs_b hW hk (nH w) (by omega)
  exact ⟨h.2 k hk, this.1, by omega⟩
theorem c_press (g : Gl) (σ : St) (w : Nat → Int) (hX : XS σ w) (hz : Z0 σ) (h : Int) (hh : inR h) : Ct g mX11_press 4 0 0 [vq (some 8), vi h] σ (PW (pressA w h) σ) := by
  refine Ct.of (by decide +kernel) (Nat.le_of_ble_eq_true rfl) ?_
  have hS := hX.1
  refine V_iload_n dX11_press_0 rfl ?_
  refine V_callS dX11_press_1 (c_isHeight g _ _ (by omega)) ss_RX11_218 rfl ⟨⟨by decide, by decide⟩, ⟨by decide, by decide⟩⟩ (Nat.le_of_ble_eq_true rfl) (fun r1 s1 p1 => ?_)
  obtain ⟨rfl, rfl⟩ := p1
  refine V_ifneB (tgt := 9) dX11_press_4 (by decide) (fun br4 => ?_) (fun br4 => ?_)
  · refine V_aload_n dX11_press_9 rfl ?_
    refine V_getfr dX11_press_10 sf_RX11_59 (by decide) (sh hS rfl) (rf hS rfl) ?_
    refine V_aload_n dX11_press_13 rfl ?_
    refine V_getfr dX11_press_14 sf_RX11_12 (by decide) (sh hS rfl) (rf hS rfl) ?_
    refine V_callV dX11_press_17 (c_drive g _ w hX hz) sv_RX11_238 (sh hS rfl) rfl ⟨⟨by decide, by decide⟩, ⟨by decide, by decide⟩⟩ (Nat.le_of_ble_eq_true rfl) (fun r17 s17 p17 => ?_)
    obtain ⟨rfl, hK, hD⟩ := p17
    have hX1 := hK.xs hX
    have hS := hX1.1
    have hp := hD.p hX.2.2 h.toNat (by omega)
    refine V_aload_n dX11_press_20 rfl ?_
    refine V_getfr dX11_press_21 sf_RX11_59 (by decide) (sh hS rfl) (rf hS rfl) ?_
    refine V_getfr dX11_press_24 sf_RX11_241 (by decide) (sh hS rfl) (rf hS rfl) ?_
    refine V_iload_n dX11_press_27 rfl ?_
    refine V_iald dX11_press_28 (sh hS rfl) (by omega) ?_
    refine V_val (show _ = prs w (nH w) h.toNat from hp.1) ?_
    refine V_callS dX11_press_29 (c_capped g _ _ (by omega)) ss_RX11_244 rfl ⟨⟨by decide, by decide⟩, ⟨by decide, by decide⟩⟩ (Nat.le_of_ble_eq_true rfl) (fun r29 s29 p29 => ?_)
    obtain ⟨rfl, rfl⟩ := p29
    refine V_iret dX11_press_32 rfl (Nat.le_refl _) (Nat.le_refl _) ?_
    exact PW_i (if_pos br4).symm hK
  · refine V_iconst dX11_press_7 ?_
    refine V_iret dX11_press_8 rfl (Nat.le_refl _) (Nat.le_refl _) ?_
    exact PW_i (if_neg br4).symm (XW.rf hz)
theorem leastW_b {wd : Bool} {w : Nat → Int} (hW : WF w) {s : Nat} {p : Int} (hp : 0 ≤ p) (h8 : szW w s ≤ 8) (h1 : 1 ≤ szW w s) : 0 ≤ leastW wd w s p ∧ leastW wd w s p ≤ 792 := by
  have := mn_b (wd := wd) (cst_ok hW hp) (hdW w s) (szW w s - 1) (tlW w s) (hdW w s) (List.Pairwise.sublist (List.tail_sublist _) (mem_nodup _ _)) (by unfold tlW; rw [List.length_tail]; rfl)
  unfold leastW
  omega
theorem leastT_r {w : Nat → Int} (hW : WF w) {s : Nat} (h1 : 1 ≤ szW w s) (h8 : szW w s ≤ 8) : inR (leastW true w s 0) := by
  have := leastW_b (wd := true) hW (s := s) (p := 0) (Int.le_refl _) h8 h1
  omega
theorem c_wet (g : Gl) (σ : St) (w : Nat → Int) (hX : XS σ w) (hz : Z0 σ) (s : Int) (hs : inR s) : Ct g mX11_wet 6 0 0 [vq (some 8), vi s] σ (PW (wetA w s) σ) := by
  refine Ct.of (by decide +kernel) (Nat.le_of_ble_eq_true rfl) ?_
  have hS := hX.1
  refine V_aload_n dX11_wet_0 rfl ?_
  refine V_iload_n dX11_wet_1 rfl ?_
  refine V_callV dX11_wet_2 (c_isRingSet g _ w hX s hs) sv_RX11_188 (sh hS rfl) rfl ⟨⟨by decide, by decide⟩, ⟨by decide, by decide⟩⟩ (Nat.le_of_ble_eq_true rfl) (fun r2 s2 p2 => ?_)
  obtain ⟨rfl, rfl⟩ := p2
  refine V_ifneB (tgt := 11) dX11_wet_5 (by decide) (fun br5 => ?_) (fun br5 => ?_)
  · refine V_aload_n dX11_wet_11 rfl ?_
    refine V_getfr dX11_wet_12 sf_RX11_59 (by decide) (sh hS rfl) (rf hS rfl) ?_
    refine V_aload_n dX11_wet_15 rfl ?_
    refine V_getfr dX11_wet_16 sf_RX11_12 (by decide) (sh hS rfl) (rf hS rfl) ?_
    refine V_callV dX11_wet_19 (c_drive g _ w hX hz) sv_RX11_238 (sh hS rfl) rfl ⟨⟨by decide, by decide⟩, ⟨by decide, by decide⟩⟩ (Nat.le_of_ble_eq_true rfl) (fun r19 s19 p19 => ?_)
    obtain ⟨rfl, hK, hD⟩ := p19
    have hX1 := hK.xs hX
    have hS := hX1.1
    obtain ⟨m, rfl, hm, h8, hs1⟩ := okSet_sz hX.2.2 br5
    refine V_aload_n dX11_wet_22 rfl ?_
    refine V_getfr dX11_wet_23 sf_RX11_59 (by decide) (sh hS rfl) (rf hS rfl) ?_
    refine V_aload_n dX11_wet_26 rfl ?_
    refine V_getfr dX11_wet_27 sf_RX11_52 (by decide) (sh hS rfl) (rf hS rfl) ?_
    refine V_aload_n dX11_wet_30 rfl ?_
    refine V_getfr dX11_wet_31 sf_RX11_12 (by decide) (sh hS rfl) (rf hS rfl) ?_
    refine V_iload_n dX11_wet_34 rfl ?_
    refine V_callV dX11_wet_35 (c_tightPress g _ w hX1 hK.2.2.2.2.2 m hm h8 hs1) sv_RX11_247 (sh hS rfl) rfl ⟨⟨by decide, by decide⟩, ⟨by decide, by decide⟩⟩ (Nat.le_of_ble_eq_true rfl) (fun r35 s35 p35 => ?_)
    obtain ⟨rfl, hK2⟩ := p35
    have hX2 := hK2.xs hX1
    have hS := hX2.1
    have hD2 := hD.k hK2
    refine V_callV dX11_wet_38 (c_wetBelow g _ hS (prs w (nH w)) (hD2.p hX.2.2) (leastW true w m 0) (leastT_r hX.2.2 hs1 h8)) sv_RX11_250 (sh hS rfl) rfl ⟨⟨by decide, by decide⟩, ⟨by decide, by decide⟩⟩ (Nat.le_of_ble_eq_true rfl) (fun r38 s38 p38 => ?_)
    obtain ⟨rfl, rfl⟩ := p38
    refine V_iret dX11_wet_41 rfl (Nat.le_refl _) (Nat.le_refl _) ?_
    exact PW_i (by unfold wetA tgt; rw [if_pos br5, Int.toNat_natCast]) (hK.tr hK2.w)
  · refine V_bipush dX11_wet_8 (by decide) ?_
    refine V_iret dX11_wet_10 rfl (Nat.le_refl _) (Nat.le_refl _) ?_
    exact PW_i (if_neg br5).symm (XW.rf hz)
theorem c_driest (g : Gl) (σ : St) (w : Nat → Int) (hX : XS σ w) (hz : Z0 σ) (s most : Int) (hs : inR s) (hm : inR most) : Ct g mX11_driest 6 0 0 [vq (some 8), vi s, vi most] σ (PW (driestA w s most) σ) := by
  refine Ct.of (by decide +kernel) (Nat.le_of_ble_eq_true rfl) ?_
  have hS := hX.1
  have n5 := hX.n5
  refine V_aload_n dX11_driest_0 rfl ?_
  refine V_iload_n dX11_driest_1 rfl ?_
  refine V_callV dX11_driest_2 (c_isRingSet g _ w hX s hs) sv_RX11_188 (sh hS rfl) rfl ⟨⟨by decide, by decide⟩, ⟨by decide, by decide⟩⟩ (Nat.le_of_ble_eq_true rfl) (fun r2 s2 p2 => ?_)
  obtain ⟨rfl, rfl⟩ := p2
  refine V_ifeqB (tgt := 19) dX11_driest_5 (by decide) (fun br5 => ?_) (fun br5 => ?_)
  · refine V_bipush dX11_driest_19 (by decide) ?_
    refine V_iret dX11_driest_21 rfl (Nat.le_refl _) (Nat.le_refl _) ?_
    exact PW_i (by unfold driestA; rw [if_neg (fun z => by first | exact br5 z.1 | exact br16 z.2)]) (XW.rf hz)
  · refine V_iload_n dX11_driest_8 rfl ?_
    refine V_iconst dX11_driest_9 ?_
    refine V_sipush dX11_driest_10 (by decide) ?_
    refine V_callS dX11_driest_13 (c_isIn g _ _ _ _ (by omega) (by omega) (by omega)) ss_RX11_107 rfl ⟨⟨by decide, by decide⟩, ⟨by decide, by decide⟩⟩ (Nat.le_of_ble_eq_true rfl) (fun r13 s13 p13 => ?_)
    obtain ⟨rfl, rfl⟩ := p13
    refine V_ifneB (tgt := 22) dX11_driest_16 (by decide) (fun br16 => ?_) (fun br16 => ?_)
    · refine V_aload_n dX11_driest_22 rfl ?_
      refine V_getfr dX11_driest_23 sf_RX11_12 (by decide) (sh hS rfl) (rf hS rfl) ?_
      refine V_getfi dX11_driest_26 sf_RX11_121 rfl (sh hS rfl) ?_
      refine V_bipush dX11_driest_29 (by decide) ?_
      refine V_icmplt (tgt := 37) dX11_driest_31 (by decide) (by omega) (by omega) (fun br31 => ?_) (fun br31 => ?_)
      · refine V_aload_n dX11_driest_37 rfl ?_
        refine V_getfr dX11_driest_38 sf_RX11_59 (by decide) (sh hS rfl) (rf hS rfl) ?_
        refine V_aload_n dX11_driest_41 rfl ?_
        refine V_getfr dX11_driest_42 sf_RX11_12 (by decide) (sh hS rfl) (rf hS rfl) ?_
        refine V_callV dX11_driest_45 (c_drive g _ w hX hz) sv_RX11_238 (sh hS rfl) rfl ⟨⟨by decide, by decide⟩, ⟨by decide, by decide⟩⟩ (Nat.le_of_ble_eq_true rfl) (fun r45 s45 p45 => ?_)
        obtain ⟨rfl, hK, hD⟩ := p45
        have hX1 := hK.xs hX
        have hS := hX1.1
        obtain ⟨m, rfl, hm8, h8, hs1⟩ := okSet_sz hX.2.2 br5
        obtain ⟨n, rfl⟩ : ∃ n : Nat, most = (n : Int) := ⟨most.toNat, by omega⟩
        refine V_aload_n dX11_driest_48 rfl ?_
        refine V_getfr dX11_driest_49 sf_RX11_59 (by decide) (sh hS rfl) (rf hS rfl) ?_
        refine V_aload_n dX11_driest_52 rfl ?_
        refine V_getfr dX11_driest_53 sf_RX11_12 (by decide) (sh hS rfl) (rf hS rfl) ?_
        refine V_iload_n dX11_driest_56 rfl ?_
        refine V_aload_n dX11_driest_57 rfl ?_
        refine V_getfr dX11_driest_58 sf_RX11_52 (by decide) (sh hS rfl) (rf hS rfl) ?_
        refine V_aload_n dX11_driest_61 rfl ?_
        refine V_getfr dX11_driest_62 sf_RX11_12 (by decide) (sh hS rfl) (rf hS rfl) ?_
        refine V_iload_n dX11_driest_65 rfl ?_
        refine V_callV dX11_driest_66 (c_tightPress g _ w hX1 hK.2.2.2.2.2 m hm8 h8 hs1) sv_RX11_247 (sh hS rfl) rfl ⟨⟨by decide, by decide⟩, ⟨by decide, by decide⟩⟩ (Nat.le_of_ble_eq_true rfl) (fun r66 s66 p66 => ?_)
        obtain ⟨rfl, hK2⟩ := p66
        have hX2 := hK2.xs hX1
        have hS := hX2.1
        have hD2 := hD.k hK2
        refine V_callV dX11_driest_69 (c_driestSize g _ w hX2 hD2 (prs w (nH w)) (hD2.p hX.2.2) n (by omega) (leastW true w m 0) (leastT_r hX.2.2 hs1 h8)) sv_RX11_253 (sh hS rfl) rfl ⟨⟨by decide, by decide⟩, ⟨by decide, by decide⟩⟩ (Nat.le_of_ble_eq_true rfl) (fun r69 s69 p69 => ?_)
        obtain ⟨rfl, rfl⟩ := p69
        refine V_iret dX11_driest_72 rfl (Nat.le_refl _) (Nat.le_refl _) ?_
        exact PW_i (by unfold driestA tgt; rw [if_pos ⟨br5, br16⟩, if_neg (by omega), Int.toNat_natCast, Int.toNat_natCast]) (hK.tr hK2.w)
      · refine V_bipush dX11_driest_34 (by decide) ?_
        refine V_iret dX11_driest_36 rfl (Nat.le_refl _) (Nat.le_refl _) ?_
        exact PW_i (by unfold driestA; rw [if_pos ⟨br5, br16⟩, if_pos (by omega)]) (XW.rf hz)
    · refine V_bipush dX11_driest_19 (by decide) ?_
      refine V_iret dX11_driest_21 rfl (Nat.le_refl _) (Nat.le_refl _) ?_
      exact PW_i (by unfold driestA; rw [if_neg (fun z => by first | exact br5 z.1 | exact br16 z.2)]) (XW.rf hz)