theorem lcmp0 (x y : Int64) : (lg_cmp x y).toInt = 0 ↔ x = y := by
  rw [← lg_cmp_eq]
  constructor
  · intro h
    rw [← iI_of (lg_cmp x y), h]; rfl
  · intro h
    rw [h]; rfl
theorem lcmp_b (x y : Int64) : inR (lg_cmp x y).toInt := by
  have h1 := Int32.le_toInt (lg_cmp x y)
  have h2 := Int32.toInt_lt (lg_cmp x y)
  constructor <;> omega
/-- the first item that isn't the ring's gap -/
def jdG (A : Ab) (pn : Nat) (s p : Int) : Nat → Nat → Int
  | 0, _ => -5
  | d + 1, i => if szW (aW A) s.toNat ≤ i ∨ aX A (30 * pn + i) ≠ (iI (gpL A s p i)).toInt64 then (i : Int) else jdG A pn s p d (i + 1)
def judgeA (A : Ab) (peg s p : Int) : Int := if okFl A peg s p then jdG A peg.toNat s p (aZ A peg.toNat).toNat 0 else lackR A peg s p
theorem c_judgeQ (g : Gl) (σ : St) (A : Ab) (N : Nat) (hC : CL σ A) (hA : AI A N) (peg s p : Int) (h1 : inR peg) (h2 : inR s) (h3 : inR p) : Ct g mX11_judge 6 0 0 [vq (some 8), vi peg, vi s, vi p] σ (PX (judgeA A peg s p) σ) := by
  refine Ct.of (by decide +kernel) (Nat.le_of_ble_eq_true rfl) ?_
  have hX := hC.xs hA
  have hS := hX.1
  have hz := hC.z
  by_cases hq : (0 ≤ peg ∧ peg ≤ 5) ∧ 4 ≤ aP A peg.toNat
  · obtain ⟨x45, b, c, n, y1, y2, y3, y4, y5, y6, y7, y8, y9, y10⟩ := (hC.2.2.2.2.2.2.2.2.1 peg.toNat (by omega)).tray hq.2
    by_cases ho : okSet (aW A) s ∧ (0 ≤ p ∧ p ≤ 99)
    · have hok : okFl A peg s p := ⟨hq, ho⟩
      have eV : judgeA A peg s p = jdG A peg.toNat s p n 0 := by
        unfold judgeA
        rw [if_pos hok, show (aZ A peg.toNat).toNat = n by omega]
      rw [eV]
      obtain ⟨m, hm0, hm, h8, hs1⟩ := okSet_sz hX.2.2 ho.1
      have hmt : s.toNat = m := by omega
      have hlen := ringW_len (w := aW A) (s := m) (p := p) hs1
      have loop : ∀ (d i : Nat) (τ : St), i + d = n → jdG A peg.toNat s p n 0 = jdG A peg.toNat s p d i → XK σ τ → LR τ (aW A) (szW (aW A) m) (fun j => (ringW (aW A) m p).getD j 0) →
          V g mX11_judge (rmD 6 0 0) (QM g 0 0 (PX (jdG A peg.toNat s p n 0) σ)) 51 [some (vq (some 8)), none, none, none, some (vq (some b)), some (vi (i : Int))] [] 0 0 τ := by
        intro d
        induction d with
        | zero =>
          intro i τ hd he hK hL
          have hS := hK.std hS
          have z3 : gl τ b = some (.inl 9) := by rw [hK.1]; exact y3
          have z5 : gP τ b 1 = some c := by rw [hK.2.2.2.1]; exact y5
          have z7 : gl τ c = some (.inr (1, n)) := by rw [hK.1]; exact y7
          refine V_iload dX11_judge_51 rfl ?_
          refine V_aload dX11_judge_53 rfl ?_
          refine V_getfr dX11_judge_55 sf_RX11_342 (by decide) z3 z5 ?_
          refine V_alen dX11_judge_58 z7 ?_
          refine V_icmpge (tgt := 106) dX11_judge_59 (by decide) (by omega) (by omega) (fun br59 => ?_) (fun br59 => ?_)
          · refine V_bipush dX11_judge_106 (by decide) ?_
            refine V_iret dX11_judge_108 rfl (Nat.le_refl _) (Nat.le_refl _) ?_
            exact PX_i he.symm hK
          · omega
        | succ d ih =>
          intro i τ hd he hK hL
          have hS := hK.std hS
          have z3 : gl τ b = some (.inl 9) := by rw [hK.1]; exact y3
          have z5 : gP τ b 1 = some c := by rw [hK.2.2.2.1]; exact y5
          have z7 : gl τ c = some (.inr (1, n)) := by rw [hK.1]; exact y7
          have zx : gL τ c i = aX A (30 * peg.toNat + i) := by rw [hK.2.2.1]; exact y10 i (by omega)
          have hg : i < szW (aW A) m → gG τ 58 i = gpL A s p i := fun hi => by
            have hL2 := hL
            rw [← hlen] at hL2
            unfold gpL
            rw [hmt]
            exact (hL2.2 i (by rw [hlen]; exact hi)).2.2
          refine V_iload dX11_judge_51 rfl ?_
          refine V_aload dX11_judge_53 rfl ?_
          refine V_getfr dX11_judge_55 sf_RX11_342 (by decide) z3 z5 ?_
          refine V_alen dX11_judge_58 z7 ?_
          refine V_icmpge (tgt := 106) dX11_judge_59 (by decide) (by omega) (by omega) (fun br59 => ?_) (fun br59 => ?_)
          · omega
          · refine V_iload dX11_judge_62 rfl ?_
            refine V_aload_n dX11_judge_64 rfl ?_
            refine V_getfr dX11_judge_65 sf_RX11_52 (by decide) (sh hS rfl) (rf hS rfl) ?_
            refine V_getfi dX11_judge_68 sf_RX11_352 rfl (sh hS rfl) ?_
            refine V_val (show _ = (szW (aW A) m : Int) from hL.1) ?_
            refine V_icmpge (tgt := 97) dX11_judge_71 (by decide) (by omega) (by omega) (fun br71 => ?_) (fun br71 => ?_)
            · refine V_iload dX11_judge_97 rfl ?_
              refine V_iret dX11_judge_99 rfl (Nat.le_refl _) (Nat.le_refl _) ?_
              exact PX_i (by
                rw [he]
                unfold jdG
                rw [hmt]
                refine (if_pos ?_).symm
                first
                  | exact Or.inl (by omega)
                  | exact Or.inr (fun q => br94 (zz.mpr (by rw [Int.toNat_natCast, zx]; exact q)))) hK
            · refine V_aload dX11_judge_74 rfl ?_
              refine V_getfr dX11_judge_76 sf_RX11_342 (by decide) z3 z5 ?_
              refine V_iload dX11_judge_79 rfl ?_
              refine V_lald dX11_judge_81 z7 (by omega) ?_
              refine V_aload_n dX11_judge_82 rfl ?_
              refine V_getfr dX11_judge_83 sf_RX11_52 (by decide) (sh hS rfl) (rf hS rfl) ?_
              refine V_getfr dX11_judge_86 sf_RX11_211 (by decide) (sh hS rfl) (rf hS rfl) ?_
              refine V_iload dX11_judge_89 rfl ?_
              refine V_iald dX11_judge_91 (sh hS rfl) (by omega) ?_
              refine V_val (show _ = gpL A s p i from hg (by omega)) ?_
              refine V_i2l dX11_judge_92 ?_
              refine V_lcmp dX11_judge_93 ?_
              have zz := lcmp0 (gL τ c (i : Int).toNat) (iI (gpL A s p i)).toInt64
              refine V_ifeq (tgt := 100) dX11_judge_94 (by decide) (by exact lcmp_b _ _) (fun br94 => ?_) (fun br94 => ?_)
              · refine V_iinc dX11_judge_100 rfl (by decide) rfl ?_
                refine V_goto (tgt := 51) dX11_judge_103 (by decide) ?_
                refine V_mask [true, false, false, false, true, true] ?_
                refine ih (i + 1) τ (by omega) ?_ hK hL
                rw [he]
                show (if _ then _ else _) = _
                rw [hmt]
                refine if_neg (fun q => ?_)
                rcases q with q | q
                · omega
                · exact q (by rw [← zx]; exact zz.mp br94)
              · refine V_iload dX11_judge_97 rfl ?_
                refine V_iret dX11_judge_99 rfl (Nat.le_refl _) (Nat.le_refl _) ?_
                exact PX_i (by
                  rw [he]
                  unfold jdG
                  rw [hmt]
                  refine (if_pos ?_).symm
                  first
                    | exact Or.inl (by omega)
                    | exact Or.inr (fun q => br94 (zz.mpr (by rw [Int.toNat_natCast, zx]; exact q)))) hK
      refine V_aload_n dX11_judge_0 rfl ?_
      refine V_iload_n dX11_judge_1 rfl ?_
      refine V_callV dX11_judge_2 (c_trayAt g _ hS peg hq.1 b y1 y3) sv_RX11_328 (sh hS rfl) rfl ⟨⟨by decide, by decide⟩, ⟨by decide, by decide⟩⟩ (Nat.le_of_ble_eq_true rfl) (fun r2 s2 p2 => ?_)
      obtain ⟨rfl, rfl⟩ := p2
      refine V_astore dX11_judge_5 (by decide) rfl ?_
      refine V_aload dX11_judge_7 rfl ?_
      refine V_ifnull (tgt := 27) dX11_judge_9 (by decide) (fun br9 => ?_) (fun a9 br9 => ?_)
      · cases br9
      · refine V_aload_n dX11_judge_12 rfl ?_
        refine V_iload_n dX11_judge_13 rfl ?_
        refine V_callV dX11_judge_14 (c_isRingSet g _ (aW A) hX s h2) sv_RX11_188 (sh hS rfl) rfl ⟨⟨by decide, by decide⟩, ⟨by decide, by decide⟩⟩ (Nat.le_of_ble_eq_true rfl) (fun r14 s14 p14 => ?_)
        obtain ⟨rfl, rfl⟩ := p14
        refine V_ifeqB (tgt := 27) dX11_judge_17 (by decide) (fun br17 => ?_) (fun br17 => ?_)
        · exact absurd ho.1 br17
        · refine V_iload_n dX11_judge_20 rfl ?_
          refine V_callS dX11_judge_21 (c_isPress g _ _ (by omega)) ss_RX11_191 rfl ⟨⟨by decide, by decide⟩, ⟨by decide, by decide⟩⟩ (Nat.le_of_ble_eq_true rfl) (fun r21 s21 p21 => ?_)
          obtain ⟨rfl, rfl⟩ := p21
          refine V_ifneB (tgt := 35) dX11_judge_24 (by decide) (fun br24 => ?_) (fun br24 => ?_)
          · refine V_aload_n dX11_judge_35 rfl ?_
            refine V_getfr dX11_judge_36 sf_RX11_52 (by decide) (sh hS rfl) (rf hS rfl) ?_
            refine V_aload_n dX11_judge_39 rfl ?_
            refine V_getfr dX11_judge_40 sf_RX11_12 (by decide) (sh hS rfl) (rf hS rfl) ?_
            refine V_iload_n dX11_judge_43 rfl ?_
            refine V_val (x := s) (y := (m : Int)) hm0 ?_
            refine V_iload_n dX11_judge_44 rfl ?_
            refine V_callV dX11_judge_45 (c_layLeast g _ (aW A) hX hC.z m hm p ho.2 h8 hs1) sv_RX11_194 (sh hS rfl) rfl ⟨⟨by decide, by decide⟩, ⟨by decide, by decide⟩⟩ (Nat.le_of_ble_eq_true rfl) (fun r45 s45 p45 => ?_)
            obtain ⟨rfl, hK, hL⟩ := p45
            refine V_iconst dX11_judge_48 ?_
            refine V_istore dX11_judge_49 (by decide) rfl ?_
            refine V_mask [true, false, false, false, true, true] ?_
            exact loop n 0 _ (by omega) rfl hK hL
          · exact absurd ho.2 br24
    · refine V_aload_n dX11_judge_0 rfl ?_
      refine V_iload_n dX11_judge_1 rfl ?_
      refine V_callV dX11_judge_2 (c_trayAt g _ hS peg hq.1 b y1 y3) sv_RX11_328 (sh hS rfl) rfl ⟨⟨by decide, by decide⟩, ⟨by decide, by decide⟩⟩ (Nat.le_of_ble_eq_true rfl) (fun r2 s2 p2 => ?_)
      obtain ⟨rfl, rfl⟩ := p2
      refine V_astore dX11_judge_5 (by decide) rfl ?_
      refine V_aload dX11_judge_7 rfl ?_
      refine V_ifnull (tgt := 27) dX11_judge_9 (by decide) (fun br9 => ?_) (fun a9 br9 => ?_)
      · cases br9
      · refine V_aload_n dX11_judge_12 rfl ?_
        refine V_iload_n dX11_judge_13 rfl ?_
        refine V_callV dX11_judge_14 (c_isRingSet g _ (aW A) hX s h2) sv_RX11_188 (sh hS rfl) rfl ⟨⟨by decide, by decide⟩, ⟨by decide, by decide⟩⟩ (Nat.le_of_ble_eq_true rfl) (fun r14 s14 p14 => ?_)
        obtain ⟨rfl, rfl⟩ := p14
        refine V_ifeqB (tgt := 27) dX11_judge_17 (by decide) (fun br17 => ?_) (fun br17 => ?_)
        · refine V_aload_n dX11_judge_27 rfl ?_
          refine V_iload_n dX11_judge_28 rfl ?_
          refine V_iload_n dX11_judge_29 rfl ?_
          refine V_iload_n dX11_judge_30 rfl ?_
          refine V_callV dX11_judge_31 (c_lackForRing g _ A N hC hA peg s p h1 h2 h3) sv_RX11_348 (sh hS rfl) rfl ⟨⟨by decide, by decide⟩, ⟨by decide, by decide⟩⟩ (Nat.le_of_ble_eq_true rfl) (fun r31 s31 p31 => ?_)
          obtain ⟨rfl, rfl⟩ := p31
          refine V_iret dX11_judge_34 rfl (Nat.le_refl _) (Nat.le_refl _) ?_
          exact PX_i (if_neg (fun z => ho z.2)).symm (XK.rf hz)
        · refine V_iload_n dX11_judge_20 rfl ?_
          refine V_callS dX11_judge_21 (c_isPress g _ _ (by omega)) ss_RX11_191 rfl ⟨⟨by decide, by decide⟩, ⟨by decide, by decide⟩⟩ (Nat.le_of_ble_eq_true rfl) (fun r21 s21 p21 => ?_)
          obtain ⟨rfl, rfl⟩ := p21
          refine V_ifneB (tgt := 35) dX11_judge_24 (by decide) (fun br24 => ?_) (fun br24 => ?_)
          · exact absurd ⟨br17, br24⟩ ho
          · refine V_aload_n dX11_judge_27 rfl ?_
            refine V_iload_n dX11_judge_28 rfl ?_
            refine V_iload_n dX11_judge_29 rfl ?_
            refine V_iload_n dX11_judge_30 rfl ?_
            refine V_callV dX11_judge_31 (c_lackForRing g _ A N hC hA peg s p h1 h2 h3) sv_RX11_348 (sh hS rfl) rfl ⟨⟨by decide, by decide⟩, ⟨by decide, by decide⟩⟩ (Nat.le_of_ble_eq_true rfl) (fun r31 s31 p31 => ?_)
            obtain ⟨rfl, rfl⟩ := p31
            refine V_iret dX11_judge_34 rfl (Nat.le_refl _) (Nat.le_refl _) ?_
            exact PX_i (if_neg (fun z => ho z.2)).symm (XK.rf hz)
  · refine V_aload_n dX11_judge_0 rfl ?_
    refine V_iload_n dX11_judge_1 rfl ?_
    refine V_callV dX11_judge_2 (c_trayNo g _ A hC peg h1 hq) sv_RX11_328 (sh hS rfl) rfl ⟨⟨by decide, by decide⟩, ⟨by decide, by decide⟩⟩ (Nat.le_of_ble_eq_true rfl) (fun r2 s2 p2 => ?_)
    obtain ⟨rfl, rfl⟩ := p2
    refine V_astore dX11_judge_5 (by decide) rfl ?_
    refine V_aload dX11_judge_7 rfl ?_
    refine V_ifnull (tgt := 27) dX11_judge_9 (by decide) (fun br9 => ?_) (fun a9 br9 => ?_)
    · refine V_aload_n dX11_judge_27 rfl ?_
      refine V_iload_n dX11_judge_28 rfl ?_
      refine V_iload_n dX11_judge_29 rfl ?_
      refine V_iload_n dX11_judge_30 rfl ?_
      refine V_callV dX11_judge_31 (c_lackForRing g _ A N hC hA peg s p h1 h2 h3) sv_RX11_348 (sh hS rfl) rfl ⟨⟨by decide, by decide⟩, ⟨by decide, by decide⟩⟩ (Nat.le_of_ble_eq_true rfl) (fun r31 s31 p31 => ?_)
      obtain ⟨rfl, rfl⟩ := p31
      refine V_iret dX11_judge_34 rfl (Nat.le_refl _) (Nat.le_refl _) ?_
      exact PX_i (if_neg (fun z => hq z.1)).symm (XK.rf hz)
    · cases br9