theorem PC.tr {v : Int} {A : Ab} {σ υ : St} {r : Option MV} {τ : St} (h : FM σ υ) (p : PC v A υ r τ) : PC v A σ r τ := ⟨p.1, p.2.1, h.tr p.2.2⟩
theorem c_addBoard (g : Gl) (σ : St) (A : Ab) (N : Nat) (hC : CL σ A) (hA : AI A N) (b : Nat) (h93 : 93 ≤ b) (hb : gl σ b = some (.inl 0)) (v : Int) (hf : gG σ b 0 = v) :
    Ct g mX7_addBoard 0 0 0 [vq (some 9), vq (some b)] σ (PT (if 7 ≤ aW A 6 then -4 else aW A 6) (if 7 ≤ aW A 6 then A else sW A (addBw (aW A) v)) σ) := by
  refine Ct.of (by decide +kernel) (Nat.le_of_ble_eq_true rfl) ?_
  have hX := hC.xs hA
  have hS := hX.1
  have n6 := hX.n6
  have i9 := n4_le hA.1
  have n5 := hX.n5
  have hnB : nBo (aW A) = (aW A 6).toNat := rfl
  refine V_aload_n dX7_addBoard_0 rfl ?_
  refine V_getfi dX7_addBoard_1 sf_RX7_40 rfl (sh hS rfl) ?_
  refine V_bipush dX7_addBoard_4 (by decide) ?_
  refine V_icmplt (tgt := 12) dX7_addBoard_6 (by decide) (by omega) (by omega) (fun br6 => ?_) (fun br6 => ?_)
  · refine V_aload_n dX7_addBoard_12 rfl ?_
    refine V_getfr dX7_addBoard_13 sf_RX7_25 (by decide) (sh hS rfl) (rf hS rfl) ?_
    refine V_aload_n dX7_addBoard_16 rfl ?_
    refine V_getfi dX7_addBoard_17 sf_RX7_40 rfl (sh hS rfl) ?_
    refine V_val n6.1 ?_
    refine V_aload_n dX7_addBoard_20 rfl ?_
    refine V_aast dX7_addBoard_21 (sh hS rfl) (by omega) hb (by decide) ?_
    refine V_aload_n dX7_addBoard_22 rfl ?_
    refine V_dup dX7_addBoard_23 rfl ?_
    refine V_getfi dX7_addBoard_24 sf_RX7_40 rfl (sh hS rfl) ?_
    refine V_val n6.1 ?_
    refine V_dup_x1 dX7_addBoard_27 rfl ?_
    refine V_iconst dX7_addBoard_28 ?_
    refine V_iadd dX7_addBoard_29 ?_
    refine V_puti dX7_addBoard_30 (sp_RX7_40 _) rfl (sh hS rfl) ?_
    refine V_iret dX7_addBoard_33 rfl (Nat.le_refl _) (Nat.le_refl _) ?_
    rw [if_neg (show ¬ 7 ≤ aW A 6 by omega), if_neg (show ¬ 7 ≤ aW A 6 by omega)]
    refine ⟨PC_i rfl ?_ (((FM.rf σ).onP _).onG _ _ (by decide)), fun a h1 h2 => up1_ne _ (by omega) _⟩
    refine hC.setW ((hS.onP _ (by decide)).onG _ _ _) rfl rfl rfl (fun a h1 h2 => gP_o h2) (fun a h1 h2 => up1_ne _ h1 _) ?_ (Int.le_of_eq (addBw_o (by decide) (by omega))) (fun i hi => ?_)
    · obtain ⟨y1, y2, y3, y4, y5⟩ := hC.2.1
      refine ⟨⟨y1.1.trans (addBw_o (by decide) (by omega)).symm, y1.2.1.trans (addBw_o (by decide) (by omega)).symm, y1.2.2.1.trans (addBw_o (by decide) (by omega)).symm, y1.2.2.2.trans (addBw_o (by decide) (by omega)).symm⟩, ⟨?_, ?_, ?_⟩, fun i hi => ?_, fun i hi => ?_, fun i hi => ?_⟩
      · rw [addBw_o (by decide) (by omega)]; exact (gG_ne _ _ (Or.inr (by decide))).trans y2.1
      · rw [addBw_o (by decide) (by omega)]; exact (gG_ne _ _ (Or.inr (by decide))).trans y2.2.1
      · refine (gG_is _ _ _ _).trans ?_
        unfold addBw
        rw [up1_is]
      · rw [addBw_o (by decide) (by omega)] at hi
        obtain ⟨c, z1, z2, z3, z4⟩ := y3 i hi
        refine ⟨c, (congrFun (gP_o (by decide)) _).trans z1, z2, z3, ?_⟩
        rw [addBw_o (by omega) (by omega), addBw_o (by omega) (by omega), addBw_o (by omega) (by omega), addBw_o (by omega) (by omega), show gG (setG (setP σ 12 _) 9 6 _) c = gG σ c from up1_ne _ (by omega) _]
        exact z4
      · rw [addBw_o (by decide) (by omega)] at hi
        obtain ⟨c, z1, z2, z3, z4⟩ := y4 i hi
        refine ⟨c, (congrFun (gP_o (by decide)) _).trans z1, z2, z3, ?_⟩
        rw [addBw_o (by omega) (by omega), addBw_o (by omega) (by omega), addBw_o (by omega) (by omega), show gG (setG (setP σ 12 _) 9 6 _) c = gG σ c from up1_ne _ (by omega) _]
        exact z4
      · have e6 : addBw (aW A) v 6 = aW A 6 + 1 := by
          unfold addBw
          rw [up1_is]
        rw [e6] at hi
        by_cases q : i = nBo (aW A)
        · subst q
          refine ⟨b, (show gP (setP σ 12 (up1 (gP σ 12) (aW A 6).toNat (some b))) 12 (nBo (aW A)) = some b by rw [gP_up]; exact up1_is _ _ _), h93, hb, ?_⟩
          rw [show gG (setG (setP σ 12 _) 9 6 _) b = gG σ b from up1_ne _ (by omega) _]
          refine hf.trans ?_
          unfold addBw; rw [up1_ne _ (by omega), up1_is]
        · obtain ⟨c, z1, z2, z3, z4⟩ := y5 i (by omega)
          refine ⟨c, (show gP (setP σ 12 (up1 (gP σ 12) (aW A 6).toNat (some b))) 12 i = some c by rw [gP_up]; exact (up1_ne _ (by omega) _).trans z1), z2, z3, ?_⟩
          rw [addBw_o (by omega) (by omega), show gG (setG (setP σ 12 _) 9 6 _) c = gG σ c from up1_ne _ (by omega) _]
          exact z4
    · rw [addBw_o (by decide) (by omega)] at hi
      exact addBw_o (by omega) (by omega)
  · refine V_bipush dX7_addBoard_9 (by decide) ?_
    refine V_iret dX7_addBoard_11 rfl (Nat.le_refl _) (Nat.le_refl _) ?_
    rw [if_pos (show 7 ≤ aW A 6 by omega), if_pos (show 7 ≤ aW A 6 by omega)]
    exact ⟨PC_i rfl hC (FM.rf _), fun _ _ _ => rfl⟩
def hoopV (A : Ab) (k s d : Int) : Int := if okH k s d then (if 6 ≤ aW A 5 then -4 else aW A 5) else -2
def hoopN (A : Ab) (k s d : Int) : Ab := if okH k s d then (if 6 ≤ aW A 5 then A else sW A (addHw (aW A) k s d)) else A
def boardV (A : Ab) (v : Int) : Int := if okB v then (if 7 ≤ aW A 6 then -4 else aW A 6) else -2
def boardN (A : Ab) (v : Int) : Ab := if okB v then (if 7 ≤ aW A 6 then A else sW A (addBw (aW A) v)) else A
theorem c_hoop (g : Gl) (σ : St) (A : Ab) (N : Nat) (hC : CL σ A) (hA : AI A N) (k s d : Int) (h1 : inR k) (h2 : inR s) (h3 : inR d) : Ct g mX11_hoop 3 1 3 [vq (some 8), vi k, vi s, vi d] σ (PC (hoopV A k s d) (hoopN A k s d) σ) := by
  refine Ct.of (by decide +kernel) (Nat.le_of_ble_eq_true rfl) ?_
  have hX := hC.xs hA
  have hS := hX.1
  have hg := hS.1
  have hE : Ext σ (setG (setG (setG (addC σ (.inl 3)) (gn σ) 0 k) (gn σ) 1 s) (gn σ) 2 d) := (((Ext.add1 hC.2.2.2.1 _).onG 0 k (Nat.le_refl _)).onG 1 s (Nat.le_refl _)).onG 2 d (Nat.le_refl _)
  refine V_iload_n dX11_hoop_0 rfl ?_
  refine V_iload_n dX11_hoop_1 rfl ?_
  refine V_iload_n dX11_hoop_2 rfl ?_
  refine V_callS dX11_hoop_3 (c_hCanBe g _ k s d h1 h2 h3) ss_RX11_83 rfl ⟨⟨by decide, by decide⟩, ⟨by decide, by decide⟩⟩ (Nat.le_of_ble_eq_true rfl) (fun r3 s3 p3 => ?_)
  obtain ⟨rfl, rfl⟩ := p3
  refine V_ifneB (tgt := 12) dX11_hoop_6 (by decide) (fun br6 => ?_) (fun br6 => ?_)
  · refine V_aload_n dX11_hoop_12 rfl ?_
    refine V_getfr dX11_hoop_13 sf_RX11_12 (by decide) (sh hS rfl) (rf hS rfl) ?_
    refine V_new dX11_hoop_16 sn_RX11_84 (Nat.le_of_ble_eq_true rfl) (Nat.le_of_ble_eq_true rfl) ?_
    refine V_dup dX11_hoop_19 rfl ?_
    refine V_iload_n dX11_hoop_20 rfl ?_
    refine V_iload_n dX11_hoop_21 rfl ?_
    refine V_iload_n dX11_hoop_22 rfl ?_
    refine V_callI dX11_hoop_23 (c_hInit g _ (gn σ) k s d (up1_is _ _ _)) si_RX11_88 rfl ⟨⟨by decide, by decide⟩, ⟨by decide, by decide⟩⟩ (Nat.le_of_ble_eq_true rfl) (fun r23 s23 p23 => ?_)
    obtain ⟨rfl, rfl⟩ := p23
    refine V_callV dX11_hoop_26 (c_addHoop g _ A N (hC.ext hE) hA (gn σ) hg (up1_is (gl σ) (gn σ) _) k s d ⟨(gG_ne _ _ (Or.inr (by decide))).trans ((gG_ne _ _ (Or.inr (by decide))).trans (gG_is _ _ _ _)), (gG_ne _ _ (Or.inr (by decide))).trans (gG_is _ _ _ _), gG_is _ _ _ _⟩) sv_RX11_91 (sh (hE.std hS) rfl) rfl ⟨⟨by decide, by decide⟩, ⟨by decide, by decide⟩⟩ (Nat.le_of_ble_eq_true rfl) (fun r26 s26 p26 => ?_)
    obtain ⟨⟨rfl, p26b⟩, -⟩ := p26
    refine V_iret dX11_hoop_29 rfl (Nat.le_of_ble_eq_true rfl) (Nat.le_of_ble_eq_true rfl) ?_
    unfold hoopV hoopN
    rw [if_pos br6, if_pos br6]
    exact PC.tr (hE.fm hg) ⟨rfl, p26b⟩
  · refine V_bipush dX11_hoop_9 (by decide) ?_
    refine V_iret dX11_hoop_11 rfl (Nat.le_of_ble_eq_true rfl) (Nat.le_of_ble_eq_true rfl) ?_
    unfold hoopV hoopN
    rw [if_neg br6, if_neg br6]
    exact PC_i rfl hC (FM.rf _)
theorem c_board (g : Gl) (σ : St) (A : Ab) (N : Nat) (hC : CL σ A) (hA : AI A N) (v : Int) (h1 : inR v) : Ct g mX11_board 3 1 1 [vq (some 8), vi v] σ (PC (boardV A v) (boardN A v) σ) := by
  refine Ct.of (by decide +kernel) (Nat.le_of_ble_eq_true rfl) ?_
  have hX := hC.xs hA
  have hS := hX.1
  have hg := hS.1
  have hE : Ext σ (setG (addC σ (.inl 0)) (gn σ) 0 v) := (Ext.add1 hC.2.2.2.1 _).onG 0 v (Nat.le_refl _)
  refine V_iload_n dX11_board_0 rfl ?_
  refine V_callS dX11_board_1 (c_bCanBe g _ v h1) ss_RX11_95 rfl ⟨⟨by decide, by decide⟩, ⟨by decide, by decide⟩⟩ (Nat.le_of_ble_eq_true rfl) (fun r1 s1 p1 => ?_)
  obtain ⟨rfl, rfl⟩ := p1
  refine V_ifneB (tgt := 10) dX11_board_4 (by decide) (fun br4 => ?_) (fun br4 => ?_)
  · refine V_aload_n dX11_board_10 rfl ?_
    refine V_getfr dX11_board_11 sf_RX11_12 (by decide) (sh hS rfl) (rf hS rfl) ?_
    refine V_new dX11_board_14 sn_RX11_96 (Nat.le_of_ble_eq_true rfl) (Nat.le_of_ble_eq_true rfl) ?_
    refine V_dup dX11_board_17 rfl ?_
    refine V_iload_n dX11_board_18 rfl ?_
    refine V_callI dX11_board_19 (c_bInit g _ (gn σ) v (up1_is _ _ _)) si_RX11_100 rfl ⟨⟨by decide, by decide⟩, ⟨by decide, by decide⟩⟩ (Nat.le_of_ble_eq_true rfl) (fun r19 s19 p19 => ?_)
    obtain ⟨rfl, rfl⟩ := p19
    refine V_callV dX11_board_22 (c_addBoard g _ A N (hC.ext hE) hA (gn σ) hg (up1_is (gl σ) (gn σ) _) v (gG_is _ _ _ _)) sv_RX11_103 (sh (hE.std hS) rfl) rfl ⟨⟨by decide, by decide⟩, ⟨by decide, by decide⟩⟩ (Nat.le_of_ble_eq_true rfl) (fun r22 s22 p22 => ?_)
    obtain ⟨⟨rfl, p22b⟩, -⟩ := p22
    refine V_iret dX11_board_25 rfl (Nat.le_of_ble_eq_true rfl) (Nat.le_of_ble_eq_true rfl) ?_
    unfold boardV boardN
    rw [if_pos br4, if_pos br4]
    exact PC.tr (hE.fm hg) ⟨rfl, p22b⟩
  · refine V_bipush dX11_board_7 (by decide) ?_
    refine V_iret dX11_board_9 rfl (Nat.le_of_ble_eq_true rfl) (Nat.le_of_ble_eq_true rfl) ?_
    unfold boardV boardN
    rw [if_neg br4, if_neg br4]
    exact PC_i rfl hC (FM.rf _)