theorem CL.lay1 {σ : St} {A : Ab} (h : CL σ A) {p b c n : Nat} {v : Int} (hp : p < 6) (h4 : 4 ≤ aP A p) (hb : gP σ 19 p = some b) (hT : TY σ b c n v) {i : Nat} (hi : i < n) (x : Int64) : CL (setL σ c (up1 (gL σ c) i x)) (xN A (up1 (aX A) (30 * p + i) x)) := by
  obtain ⟨x45, b', c', n', y1, y2, y3, y4, y5, y6, y7, y8, y9, y10⟩ := (h.2.2.2.2.2.2.2.2.1 p hp).tray h4
  have e1 := oinj (y1.symm.trans hb)
  subst e1
  have e2 := oinj (y5.symm.trans hT.2.2.1)
  subst e2
  have e3 := oinj (y7.symm.trans hT.2.2.2.1)
  have e4 : n' = n := by injection e3 with z; injection z
  subst e4
  refine h.items hp h4 y1 y5 (fun j hj => ?_) (fun q j hq2 hqp hj => up1_ne _ (by omega) _)
  by_cases e : j = i
  · subst e; rw [up1_is, up1_is]
  · rw [up1_ne _ e, up1_ne _ (by omega)]
    exact y10 j (by omega)
/-- the first n items of a tray laid -/
def flX (X : Nat → Int64) (p : Nat) (f : Nat → Int64) : Nat → Nat → Int64
  | 0 => X
  | n + 1 => up1 (flX X p f n) (30 * p + n) (f n)
def gpL (A : Ab) (s p : Int) (i : Nat) : Int := gapL (aW A) (ringW (aW A) s.toNat p) i
def flF (A : Ab) (pn : Nat) (s p : Int) (i : Nat) : Int64 := lyV (aP A pn - 4) (iI (gpL A s p i)).toInt64
def flK (A : Ab) (pn : Nat) (s : Int) : Int := min (aZ A pn) (szW (aW A) s.toNat : Int)
abbrev okFl (A : Ab) (peg s p : Int) : Prop := ((0 ≤ peg ∧ peg ≤ 5) ∧ 4 ≤ aP A peg.toNat) ∧ okSet (aW A) s ∧ (0 ≤ p ∧ p ≤ 99)
def fillV (A : Ab) (peg s p : Int) : Int := if okFl A peg s p then flK A peg.toNat s else lackR A peg s p
def fillN (A : Ab) (peg s p : Int) : Ab := if okFl A peg s p then xN A (flX (aX A) peg.toNat (flF A peg.toNat s p) (flK A peg.toNat s).toNat) else A
theorem c_fillQ (g : Gl) (σ : St) (A : Ab) (N : Nat) (hC : CL σ A) (hA : AI A N) (peg s p : Int) (h1 : inR peg) (h2 : inR s) (h3 : inR p) : Ct g mX11_fill 6 0 0 [vq (some 8), vi peg, vi s, vi p] σ (PC (fillV A peg s p) (fillN A peg s p) σ) := by
  refine Ct.of (by decide +kernel) (Nat.le_of_ble_eq_true rfl) ?_
  have hX := hC.xs hA
  have hS := hX.1
  have no : ¬ okFl A peg s p → PC (fillV A peg s p) (fillN A peg s p) σ (some (vi (lackR A peg s p))) σ := fun q => by
    unfold fillV fillN
    rw [if_neg q, if_neg q]
    exact PC_i rfl hC (FM.rf _)
  by_cases hq : (0 ≤ peg ∧ peg ≤ 5) ∧ 4 ≤ aP A peg.toNat
  · obtain ⟨x45, b, c, n, y1, y2, y3, y4, y5, y6, y7, y8, y9, y10⟩ := (hC.2.2.2.2.2.2.2.2.1 peg.toNat (by omega)).tray hq.2
    have hT : TY σ b c n (aP A peg.toNat - 4) := ⟨y3, y4, y5, y7, y9⟩
    by_cases ho : okSet (aW A) s ∧ (0 ≤ p ∧ p ≤ 99)
    · have hok : okFl A peg s p := ⟨hq, ho⟩
      have eV : fillV A peg s p = flK A peg.toNat s := if_pos hok
      have eN : fillN A peg s p = xN A (flX (aX A) peg.toNat (flF A peg.toNat s p) (flK A peg.toNat s).toNat) := if_pos hok
      rw [eV, eN]
      obtain ⟨m, hm0, hm, h8, hs1⟩ := okSet_sz hX.2.2 ho.1
      have hK0 : flK A peg.toNat s = min (n : Int) (szW (aW A) m : Int) := by unfold flK; rw [y8, hm0, Int.toNat_natCast]
      have hlen := ringW_len (w := aW A) (s := m) (p := p) hs1
      have loop : ∀ (d i : Nat) (τ : St), (i : Int) + d = flK A peg.toNat s → CL τ (xN A (flX (aX A) peg.toNat (flF A peg.toNat s p) i)) → LR τ (aW A) (szW (aW A) m) (fun j => (ringW (aW A) m p).getD j 0) → gP τ 19 peg.toNat = some b → TY τ b c n (aP A peg.toNat - 4) → FM σ τ →
          V g mX11_fill (rmD 6 0 0) (QM g 0 0 (PC (flK A peg.toNat s) (xN A (flX (aX A) peg.toNat (flF A peg.toNat s p) (flK A peg.toNat s).toNat)) σ)) 69 [some (vq (some 8)), none, none, none, some (vq (some b)), some (vi (flK A peg.toNat s)), some (vi (i : Int))] [] 0 0 τ := by
        intro d
        induction d with
        | zero =>
          intro i τ hd hCt hL hb1 hTt hF
          have hS := hCt.1
          refine V_iload dX11_fill_69 rfl ?_
          refine V_iload dX11_fill_71 rfl ?_
          refine V_icmpge (tgt := 100) dX11_fill_73 (by decide) (by omega) (by omega) (fun br73 => ?_) (fun br73 => ?_)
          · refine V_iload dX11_fill_100 rfl ?_
            refine V_iret dX11_fill_102 rfl (Nat.le_refl _) (Nat.le_refl _) ?_
            rw [show (flK A peg.toNat s).toNat = i by omega]
            exact PC_i rfl hCt hF
          · omega
        | succ d ih =>
          intro i τ hd hCt hL hb1 hTt hF
          have hS := hCt.1
          have hg : gG τ 58 i = gpL A s p i := by
            have hL2 := hL
            rw [← hlen] at hL2
            unfold gpL
            rw [hm0, Int.toNat_natCast]
            exact (hL2.2 i (by rw [hlen]; omega)).2.2
          have hgb : 0 ≤ gpL A s p i ∧ gpL A s p i ≤ 99 := by
            have hL2 := hL
            rw [← hlen] at hL2
            rw [← hg]
            exact LR_gap hX.2.2 hL2 i (by rw [hlen]; omega)
          refine V_iload dX11_fill_69 rfl ?_
          refine V_iload dX11_fill_71 rfl ?_
          refine V_icmpge (tgt := 100) dX11_fill_73 (by decide) (by omega) (by omega) (fun br73 => ?_) (fun br73 => ?_)
          · omega
          · refine V_aload dX11_fill_76 rfl ?_
            refine V_iload dX11_fill_78 rfl ?_
            refine V_aload_n dX11_fill_80 rfl ?_
            refine V_getfr dX11_fill_81 sf_RX11_52 (by decide) (sh hS rfl) (rf hS rfl) ?_
            refine V_getfr dX11_fill_84 sf_RX11_211 (by decide) (sh hS rfl) (rf hS rfl) ?_
            refine V_iload dX11_fill_87 rfl ?_
            refine V_iald dX11_fill_89 (sh hS rfl) (by omega) ?_
            refine V_val (show _ = gpL A s p i from hg) ?_
            refine V_i2l dX11_fill_90 ?_
            refine V_callV dX11_fill_91 (c_lay g _ b c n _ hTt (by omega) (i : Int) ((iI (gpL A s p i)).toInt64) (by omega)) sv_RX11_338 hTt.1 rfl ⟨⟨by decide, by decide⟩, ⟨by decide, by decide⟩⟩ (Nat.le_of_ble_eq_true rfl) (fun r91 s91 p91 => ?_)
            obtain ⟨rfl, rfl⟩ := p91
            refine V_iinc dX11_fill_94 rfl (by decide) rfl ?_
            refine V_goto (tgt := 69) dX11_fill_97 (by decide) ?_
            refine V_mask [true, false, false, false, true, true, true] ?_
            exact ih (i + 1) _ (by omega) (hCt.lay1 (by omega) hq.2 hb1 hTt (by omega) _) hL hb1 hTt (hF.onL _ (by omega))
      refine V_aload_n dX11_fill_0 rfl ?_
      refine V_iload_n dX11_fill_1 rfl ?_
      refine V_callV dX11_fill_2 (c_trayAt g _ hS peg hq.1 b y1 y3) sv_RX11_328 (sh hS rfl) rfl ⟨⟨by decide, by decide⟩, ⟨by decide, by decide⟩⟩ (Nat.le_of_ble_eq_true rfl) (fun r2 s2 p2 => ?_)
      obtain ⟨rfl, rfl⟩ := p2
      refine V_astore dX11_fill_5 (by decide) rfl ?_
      refine V_aload dX11_fill_7 rfl ?_
      refine V_ifnull (tgt := 27) dX11_fill_9 (by decide) (fun br9 => ?_) (fun a9 br9 => ?_)
      · cases br9
      · refine V_aload_n dX11_fill_12 rfl ?_
        refine V_iload_n dX11_fill_13 rfl ?_
        refine V_callV dX11_fill_14 (c_isRingSet g _ (aW A) hX s h2) sv_RX11_188 (sh hS rfl) rfl ⟨⟨by decide, by decide⟩, ⟨by decide, by decide⟩⟩ (Nat.le_of_ble_eq_true rfl) (fun r14 s14 p14 => ?_)
        obtain ⟨rfl, rfl⟩ := p14
        refine V_ifeqB (tgt := 27) dX11_fill_17 (by decide) (fun br17 => ?_) (fun br17 => ?_)
        · exact absurd ho.1 br17
        · refine V_iload_n dX11_fill_20 rfl ?_
          refine V_callS dX11_fill_21 (c_isPress g _ _ (by omega)) ss_RX11_191 rfl ⟨⟨by decide, by decide⟩, ⟨by decide, by decide⟩⟩ (Nat.le_of_ble_eq_true rfl) (fun r21 s21 p21 => ?_)
          obtain ⟨rfl, rfl⟩ := p21
          refine V_ifneB (tgt := 35) dX11_fill_24 (by decide) (fun br24 => ?_) (fun br24 => ?_)
          · refine V_aload_n dX11_fill_35 rfl ?_
            refine V_getfr dX11_fill_36 sf_RX11_52 (by decide) (sh hS rfl) (rf hS rfl) ?_
            refine V_aload_n dX11_fill_39 rfl ?_
            refine V_getfr dX11_fill_40 sf_RX11_12 (by decide) (sh hS rfl) (rf hS rfl) ?_
            refine V_iload_n dX11_fill_43 rfl ?_
            refine V_val (x := s) (y := (m : Int)) hm0 ?_
            refine V_iload_n dX11_fill_44 rfl ?_
            refine V_callV dX11_fill_45 (c_layLeast g _ (aW A) hX hC.z m hm p ho.2 h8 hs1) sv_RX11_194 (sh hS rfl) rfl ⟨⟨by decide, by decide⟩, ⟨by decide, by decide⟩⟩ (Nat.le_of_ble_eq_true rfl) (fun r45 s45 p45 => ?_)
            obtain ⟨rfl, hK, hL⟩ := p45
            have hC1 := hC.xw hK.w
            have hS := hC1.1
            have hT1 : TY s45 b c n (aP A peg.toNat - 4) := ⟨by rw [hK.1]; exact y3, by rw [hK.2.2.2.2.1 b (by omega)]; exact y4, by rw [hK.2.2.2.1]; exact y5, by rw [hK.1]; exact y7, y9⟩
            refine V_aload dX11_fill_48 rfl ?_
            refine V_getfr dX11_fill_50 sf_RX11_342 (by decide) hT1.1 hT1.2.2.1 ?_
            refine V_alen dX11_fill_53 hT1.2.2.2.1 ?_
            refine V_aload_n dX11_fill_54 rfl ?_
            refine V_getfr dX11_fill_55 sf_RX11_52 (by decide) (sh hS rfl) (rf hS rfl) ?_
            refine V_getfi dX11_fill_58 sf_RX11_352 rfl (sh hS rfl) ?_
            refine V_val (show _ = (szW (aW A) m : Int) from hL.1) ?_
            refine V_min dX11_fill_61 sm_RX11_353 (by decide) (by decide) (Nat.le_of_ble_eq_true rfl) (by omega) (by omega) ?_
            refine V_val (show _ = flK A peg.toNat s by rw [hK0]) ?_
            refine V_istore dX11_fill_64 (by decide) rfl ?_
            refine V_iconst dX11_fill_66 ?_
            refine V_istore dX11_fill_67 (by decide) rfl ?_
            refine V_mask [true, false, false, false, true, true, true] ?_
            exact loop (flK A peg.toNat s).toNat 0 _ (by omega) hC1 hL (by rw [hK.2.2.2.1]; exact y1) hT1 hK.w.fm
          · exact absurd ho.2 br24
    · refine V_aload_n dX11_fill_0 rfl ?_
      refine V_iload_n dX11_fill_1 rfl ?_
      refine V_callV dX11_fill_2 (c_trayAt g _ hS peg hq.1 b y1 y3) sv_RX11_328 (sh hS rfl) rfl ⟨⟨by decide, by decide⟩, ⟨by decide, by decide⟩⟩ (Nat.le_of_ble_eq_true rfl) (fun r2 s2 p2 => ?_)
      obtain ⟨rfl, rfl⟩ := p2
      refine V_astore dX11_fill_5 (by decide) rfl ?_
      refine V_aload dX11_fill_7 rfl ?_
      refine V_ifnull (tgt := 27) dX11_fill_9 (by decide) (fun br9 => ?_) (fun a9 br9 => ?_)
      · cases br9
      · refine V_aload_n dX11_fill_12 rfl ?_
        refine V_iload_n dX11_fill_13 rfl ?_
        refine V_callV dX11_fill_14 (c_isRingSet g _ (aW A) hX s h2) sv_RX11_188 (sh hS rfl) rfl ⟨⟨by decide, by decide⟩, ⟨by decide, by decide⟩⟩ (Nat.le_of_ble_eq_true rfl) (fun r14 s14 p14 => ?_)
        obtain ⟨rfl, rfl⟩ := p14
        refine V_ifeqB (tgt := 27) dX11_fill_17 (by decide) (fun br17 => ?_) (fun br17 => ?_)
        · refine V_aload_n dX11_fill_27 rfl ?_
          refine V_iload_n dX11_fill_28 rfl ?_
          refine V_iload_n dX11_fill_29 rfl ?_
          refine V_iload_n dX11_fill_30 rfl ?_
          refine V_callV dX11_fill_31 (c_lackForRing g _ A N hC hA peg s p h1 h2 h3) sv_RX11_348 (sh hS rfl) rfl ⟨⟨by decide, by decide⟩, ⟨by decide, by decide⟩⟩ (Nat.le_of_ble_eq_true rfl) (fun r31 s31 p31 => ?_)
          obtain ⟨rfl, rfl⟩ := p31
          refine V_iret dX11_fill_34 rfl (Nat.le_refl _) (Nat.le_refl _) ?_
          exact no (fun z => ho z.2)
        · refine V_iload_n dX11_fill_20 rfl ?_
          refine V_callS dX11_fill_21 (c_isPress g _ _ (by omega)) ss_RX11_191 rfl ⟨⟨by decide, by decide⟩, ⟨by decide, by decide⟩⟩ (Nat.le_of_ble_eq_true rfl) (fun r21 s21 p21 => ?_)
          obtain ⟨rfl, rfl⟩ := p21
          refine V_ifneB (tgt := 35) dX11_fill_24 (by decide) (fun br24 => ?_) (fun br24 => ?_)
          · exact absurd ⟨br17, br24⟩ ho
          · refine V_aload_n dX11_fill_27 rfl ?_
            refine V_iload_n dX11_fill_28 rfl ?_
            refine V_iload_n dX11_fill_29 rfl ?_
            refine V_iload_n dX11_fill_30 rfl ?_
            refine V_callV dX11_fill_31 (c_lackForRing g _ A N hC hA peg s p h1 h2 h3) sv_RX11_348 (sh hS rfl) rfl ⟨⟨by decide, by decide⟩, ⟨by decide, by decide⟩⟩ (Nat.le_of_ble_eq_true rfl) (fun r31 s31 p31 => ?_)
            obtain ⟨rfl, rfl⟩ := p31
            refine V_iret dX11_fill_34 rfl (Nat.le_refl _) (Nat.le_refl _) ?_
            exact no (fun z => ho z.2)
  · refine V_aload_n dX11_fill_0 rfl ?_
    refine V_iload_n dX11_fill_1 rfl ?_
    refine V_callV dX11_fill_2 (c_trayNo g _ A hC peg h1 hq) sv_RX11_328 (sh hS rfl) rfl ⟨⟨by decide, by decide⟩, ⟨by decide, by decide⟩⟩ (Nat.le_of_ble_eq_true rfl) (fun r2 s2 p2 => ?_)
    obtain ⟨rfl, rfl⟩ := p2
    refine V_astore dX11_fill_5 (by decide) rfl ?_
    refine V_aload dX11_fill_7 rfl ?_
    refine V_ifnull (tgt := 27) dX11_fill_9 (by decide) (fun br9 => ?_) (fun a9 br9 => ?_)
    · refine V_aload_n dX11_fill_27 rfl ?_
      refine V_iload_n dX11_fill_28 rfl ?_
      refine V_iload_n dX11_fill_29 rfl ?_
      refine V_iload_n dX11_fill_30 rfl ?_
      refine V_callV dX11_fill_31 (c_lackForRing g _ A N hC hA peg s p h1 h2 h3) sv_RX11_348 (sh hS rfl) rfl ⟨⟨by decide, by decide⟩, ⟨by decide, by decide⟩⟩ (Nat.le_of_ble_eq_true rfl) (fun r31 s31 p31 => ?_)
      obtain ⟨rfl, rfl⟩ := p31
      refine V_iret dX11_fill_34 rfl (Nat.le_refl _) (Nat.le_refl _) ?_
      exact no (fun z => hq z.1)
    · cases br9