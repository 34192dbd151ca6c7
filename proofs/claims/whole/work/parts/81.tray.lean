/-! a tray laid on a peg -/
theorem flX_in {X : Nat → Int64} {p : Nat} {f : Nat → Int64} : ∀ (n i : Nat), i < n → flX X p f n (30 * p + i) = f i
  | n + 1, i, h => by
    show up1 (flX X p f n) (30 * p + n) (f n) (30 * p + i) = f i
    by_cases e : i = n
    · subst e; exact up1_is _ _ _
    · rw [up1_ne _ (by omega)]
      exact flX_in n i (by omega)
theorem flX_out {X : Nat → Int64} {p : Nat} {f : Nat → Int64} : ∀ (n k : Nat), k < 30 * p ∨ 30 * p + n ≤ k → flX X p f n k = X k
  | 0, _, _ => rfl
  | n + 1, k, h => by
    show up1 (flX X p f n) (30 * p + n) (f n) k = X k
    rw [up1_ne _ (by omega)]
    exact flX_out n k (by omega)
theorem c_tInit (g : Gl) (σ : St) (a : Nat) (s n : Int) (ha : gl σ a = some (.inl 9)) (hlt : a < gn σ) (hn : 0 ≤ n ∧ n ≤ 30) : Ct g mX10_init 2 1 30 [vq (some a), vi s, vi n] σ (rV (setP (addC (setG σ a 0 s) (.inr (1, n.toNat))) a (up1 (gP σ a) 1 (some (gn σ))))) := by
  refine Ct.of (by decide +kernel) (Nat.le_of_ble_eq_true rfl) ?_
  refine V_aload_n dX10_init_0 rfl ?_
  refine V_callI dX10_init_1 (c_thing g _ a) si_RX10_3 rfl ⟨⟨by decide, by decide⟩, ⟨by decide, by decide⟩⟩ (Nat.le_of_ble_eq_true rfl) (fun r1 s1 p1 => ?_)
  obtain ⟨rfl, rfl⟩ := p1
  refine V_aload_n dX10_init_4 rfl ?_
  refine V_iload_n dX10_init_5 rfl ?_
  refine V_puti dX10_init_6 sp_RX10_9 rfl ha ?_
  refine V_aload_n dX10_init_9 rfl ?_
  refine V_iconst dX10_init_10 ?_
  refine V_iload_n dX10_init_11 rfl ?_
  refine V_bipush dX10_init_12 (by decide) ?_
  refine V_min dX10_init_14 sm_RX10_15 (by decide) (by decide) (Nat.le_of_ble_eq_true rfl) (by omega) (by omega) ?_
  refine V_max dX10_init_17 sm_RX10_21 (by decide) (by decide) (Nat.le_of_ble_eq_true rfl) (by omega) (by omega) ?_
  refine V_val (show _ = ((n.toNat : Nat) : Int) by omega) ?_
  refine V_newa (t := 1) (N := n.toNat) dX10_init_20 (List.mem_cons_of_mem _ List.mem_cons_self) (by omega) (Nat.le_refl _) (show 0 + n.toNat ≤ 30 by omega) ?_
  refine V_putr (ty := .array .long) dX10_init_22 sp_RX10_24 (by decide +kernel) rfl (by decide) (show up1 (gl σ) (gn σ) _ a = _ from (up1_ne _ (by omega) _).trans ha) ?_
  refine V_vret dX10_init_25 rfl (Nat.le_refl _) (show 0 + n.toNat ≤ 30 by omega) ?_
  refine ⟨rfl, ?_⟩
  have e : gP (addC (setG σ a 0 s) (.inr (1, n.toNat))) a = gP σ a := up1_ne _ (show a ≠ gn σ by omega) _
  exact congrArg (fun q => setP (addC (setG σ a 0 s) (.inr (1, n.toNat))) a (up1 q 1 (some (gn σ)))) e.symm
theorem Ext.addn {σ τ : St} (h : Ext σ τ) (s : Sh) : Ext σ (addC τ s) := by
  have h1 := h.1
  refine ⟨Nat.le_succ_of_le h1, fun a ha => ?_, fun a ha => ?_⟩
  · have := h.2.1 a ha
    exact ⟨(up1_ne _ (by omega) _).trans this.1, (up1_ne _ (by omega) _).trans this.2.1, (up1_ne _ (by omega) _).trans this.2.2.1, (up1_ne _ (by omega) _).trans this.2.2.2⟩
  · have e : gn (addC τ s) = gn τ + 1 := rfl
    rw [e] at ha
    exact (up1_ne _ (by omega) _).trans (h.2.2 a (by omega))
def trayV (peg sort n : Int) : Int := if 0 ≤ peg ∧ peg ≤ 5 then (if (0 ≤ sort ∧ sort ≤ 1) ∧ n ≤ 30 then (if n < 0 then -14 else 1) else -2) else -1
def trN (A : Ab) (p : Nat) (sort n : Int) : Ab := mkA A (up1 (aP A) p (4 + sort)) (aK A) (up1 (aZ A) p n) (aI A) (flX (aX A) p (fun _ => 0) 30)
abbrev okTr (peg sort n : Int) : Prop := (0 ≤ peg ∧ peg ≤ 5) ∧ (0 ≤ sort ∧ sort ≤ 1) ∧ (0 ≤ n ∧ n ≤ 30)
def trayN (A : Ab) (peg sort n : Int) : Ab := if okTr peg sort n then trN A peg.toNat sort n else A
theorem c_tray (g : Gl) (σ : St) (A : Ab) (hC : CL σ A) (peg sort n : Int) (h1 : inR peg) (h2 : inR sort) (h3 : inR n) : Ct g mX11_tray 3 2 32 [vq (some 8), vi peg, vi sort, vi n] σ (PC (trayV peg sort n) (trayN A peg sort n) σ) := by
  refine Ct.of (by decide +kernel) (Nat.le_of_ble_eq_true rfl) ?_
  have hS := hC.1
  have hg := hS.1
  have no : ∀ v, ¬ okTr peg sort n → v = trayV peg sort n → PC (trayV peg sort n) (trayN A peg sort n) σ (some (vi v)) σ := fun v z e => by
    unfold trayN
    rw [if_neg z, ← e]
    exact PC_i rfl hC (FM.rf _)
  have hE1 := Ext.add1 hC.2.2.2.1 (.inl 9)
  have hE : Ext σ (setP (addC (setG (addC σ (.inl 9)) (gn σ) 0 sort) (.inr (1, n.toNat))) (gn σ) (up1 (gP (addC σ (.inl 9)) (gn σ)) 1 (some (gn (addC σ (.inl 9)))))) := ((hE1.onG 0 sort (Nat.le_refl _)).addn _).onP _ (Nat.le_refl _)
  have q1 : gl (setP (addC (setG (addC σ (.inl 9)) (gn σ) 0 sort) (.inr (1, n.toNat))) (gn σ) (up1 (gP (addC σ (.inl 9)) (gn σ)) 1 (some (gn (addC σ (.inl 9)))))) (gn σ) = some (.inl 9) := (up1_ne _ (show gn σ ≠ gn σ + 1 by omega) _).trans (up1_is _ _ _)
  have q2 : gl (setP (addC (setG (addC σ (.inl 9)) (gn σ) 0 sort) (.inr (1, n.toNat))) (gn σ) (up1 (gP (addC σ (.inl 9)) (gn σ)) 1 (some (gn (addC σ (.inl 9)))))) (gn σ + 1) = some (.inr (1, n.toNat)) := up1_is _ _ _
  have q3 : gG (setP (addC (setG (addC σ (.inl 9)) (gn σ) 0 sort) (.inr (1, n.toNat))) (gn σ) (up1 (gP (addC σ (.inl 9)) (gn σ)) 1 (some (gn (addC σ (.inl 9)))))) (gn σ) 0 = sort := (congrFun (up1_ne _ (show gn σ ≠ gn σ + 1 by omega) _) 0).trans (gG_is _ _ _ _)
  have q4 : gP (setP (addC (setG (addC σ (.inl 9)) (gn σ) 0 sort) (.inr (1, n.toNat))) (gn σ) (up1 (gP (addC σ (.inl 9)) (gn σ)) 1 (some (gn (addC σ (.inl 9)))))) (gn σ) 1 = some (gn σ + 1) := (congrFun gP_up 1).trans (up1_is _ _ _)
  have q5 : gL (setP (addC (setG (addC σ (.inl 9)) (gn σ) 0 sort) (.inr (1, n.toNat))) (gn σ) (up1 (gP (addC σ (.inl 9)) (gn σ)) 1 (some (gn (addC σ (.inl 9)))))) (gn σ + 1) = fun _ => 0 := up1_is _ _ _
  by_cases hp : 0 ≤ peg ∧ peg ≤ 5
  · refine V_iload_n dX11_tray_0 rfl ?_
    refine V_callS dX11_tray_1 (c_isPeg g _ _ (by omega)) ss_RX11_299 rfl ⟨⟨by decide, by decide⟩, ⟨by decide, by decide⟩⟩ (Nat.le_of_ble_eq_true rfl) (fun r1 s1 p1 => ?_)
    obtain ⟨rfl, rfl⟩ := p1
    refine V_ifneB (tgt := 9) dX11_tray_4 (by decide) (fun br4 => ?_) (fun br4 => ?_)
    · refine V_iload_n dX11_tray_9 rfl ?_
      refine V_iconst dX11_tray_10 ?_
      refine V_iconst dX11_tray_11 ?_
      refine V_callS dX11_tray_12 (c_isIn g _ _ _ _ (by omega) (by omega) (by omega)) ss_RX11_107 rfl ⟨⟨by decide, by decide⟩, ⟨by decide, by decide⟩⟩ (Nat.le_of_ble_eq_true rfl) (fun r12 s12 p12 => ?_)
      obtain ⟨rfl, rfl⟩ := p12
      refine V_ifeqB (tgt := 24) dX11_tray_15 (by decide) (fun br15 => ?_) (fun br15 => ?_)
      · refine V_bipush dX11_tray_24 (by decide) ?_
        refine V_iret dX11_tray_26 rfl (Nat.le_of_ble_eq_true rfl) (Nat.le_of_ble_eq_true rfl) ?_
        exact no _ (fun z => by first | exact br15 z.2.1 | omega) (by unfold trayV; rw [if_pos hp, if_neg (fun z => by first | exact br15 z.1 | omega)])
      · refine V_iload_n dX11_tray_18 rfl ?_
        refine V_bipush dX11_tray_19 (by decide) ?_
        refine V_icmple (tgt := 27) dX11_tray_21 (by decide) (by omega) (by omega) (fun br21 => ?_) (fun br21 => ?_)
        · refine V_iload_n dX11_tray_27 rfl ?_
          refine V_ifge (tgt := 34) dX11_tray_28 (by decide) (by omega) (fun br28 => ?_) (fun br28 => ?_)
          · refine V_aload_n dX11_tray_34 rfl ?_
            refine V_getfr dX11_tray_35 sf_RX11_27 (by decide) (sh hS rfl) (rf hS rfl) ?_
            refine V_iload_n dX11_tray_38 rfl ?_
            refine V_new dX11_tray_39 sn_RX11_306 (Nat.le_of_ble_eq_true rfl) (Nat.le_of_ble_eq_true rfl) ?_
            refine V_dup dX11_tray_42 rfl ?_
            refine V_iload_n dX11_tray_43 rfl ?_
            refine V_iload_n dX11_tray_44 rfl ?_
            refine V_callI dX11_tray_45 (c_tInit g _ (gn σ) sort n (up1_is _ _ _) (Nat.lt_succ_self _) (by omega)) si_RX11_308 rfl ⟨⟨by decide, by decide⟩, ⟨Nat.le_of_ble_eq_true rfl, Nat.le_of_ble_eq_true rfl⟩⟩ (Nat.le_of_ble_eq_true rfl) (fun r45 s45 p45 => ?_)
            obtain ⟨rfl, e45⟩ := p45
            rw [e45] at hE q1 q2 q3 q4 q5
            clear e45
            have hC4 := hC.ext hE
            have hS := hC4.1
            refine V_aast dX11_tray_48 (sh hS rfl) (by omega) q1 (by decide) ?_
            refine V_iconst dX11_tray_49 ?_
            refine V_iret dX11_tray_50 rfl (Nat.le_of_ble_eq_true rfl) (Nat.le_of_ble_eq_true rfl) ?_
            have hok : okTr peg sort n := ⟨hp, br15, by omega⟩
            unfold trayV trayN
            rw [if_pos hp, if_pos ⟨br15, by omega⟩, if_neg (by omega), if_pos hok]
            refine PC_i rfl ?_ ((hE.fm hg).onP _)
            refine hC4.peg (by omega) (some (gn σ)) (fun q hq hne => ⟨up1_ne _ hne _, rfl, up1_ne _ hne _, rfl, fun i hi => flX_out 30 _ (by omega)⟩) ?_ ?_ (fun b e => by rw [← oinj e]; exact hg)
            · have hp19 : gP (setP s45 19 (up1 (gP s45 19) peg.toNat (some (gn σ)))) 19 peg.toNat = some (gn σ) := (congrFun gP_up _).trans (up1_is _ _ _)
              have hpO : gP (setP s45 19 (up1 (gP s45 19) peg.toNat (some (gn σ)))) (gn σ) 1 = some (gn σ + 1) := (congrFun (gP_o (by omega)) 1).trans q4
              have eP : aP (trN A peg.toNat sort n) peg.toNat = 4 + sort := up1_is _ _ _
              have eZ : aZ (trN A peg.toNat sort n) peg.toNat = n := up1_is _ _ _
              refine Or.inr (Or.inr (Or.inr (Or.inr ⟨?_, gn σ, gn σ + 1, n.toNat, hp19, hg, q1, ?_, hpO, by omega, q2, ?_, by omega, fun i hi => ?_⟩)))
              · show aP (trN A peg.toNat sort n) peg.toNat = 4 ∨ aP (trN A peg.toNat sort n) peg.toNat = 5
                rw [eP]; omega
              · show gG s45 (gn σ) 0 = aP (trN A peg.toNat sort n) peg.toNat - 4
                rw [eP, q3]; omega
              · show ((n.toNat : Nat) : Int) = aZ (trN A peg.toNat sort n) peg.toNat
                rw [eZ]; omega
              · show gL s45 (gn σ + 1) i = flX (aX A) peg.toNat (fun _ => 0) 30 (30 * peg.toNat + i)
                rw [q5, flX_in 30 i (by omega)]
            · intro z q b c hq hne h4 e1 e2 e3
              have e := oinj e1
              subst e
              rw [q4] at e3
              obtain ⟨-, b', c', n', y1, y2, y3, y4, y5, y6, y7, -⟩ := (hC.2.2.2.2.2.2.2.2.1 q hq).tray h4
              have lb := hC.lt y3
              have lc := hC.lt y7
              have f1 : gP s45 19 q = gP σ 19 q := by rw [(hE.2.1 19 (by omega)).2.2.2]
              rw [f1, y1] at e2
              have e := oinj e2
              subst e
              rw [(hE.2.1 b' (by omega)).2.2.2, y5] at e3
              have := oinj e3
              omega
          · refine V_bipush dX11_tray_31 (by decide) ?_
            refine V_iret dX11_tray_33 rfl (Nat.le_of_ble_eq_true rfl) (Nat.le_of_ble_eq_true rfl) ?_
            exact no _ (fun z => by omega) (by unfold trayV; rw [if_pos hp, if_pos ⟨br15, by omega⟩, if_pos (by omega)])
        · refine V_bipush dX11_tray_24 (by decide) ?_
          refine V_iret dX11_tray_26 rfl (Nat.le_of_ble_eq_true rfl) (Nat.le_of_ble_eq_true rfl) ?_
          exact no _ (fun z => by first | exact br15 z.2.1 | omega) (by unfold trayV; rw [if_pos hp, if_neg (fun z => by first | exact br15 z.1 | omega)])
    · exact absurd hp br4
  · refine V_iload_n dX11_tray_0 rfl ?_
    refine V_callS dX11_tray_1 (c_isPeg g _ _ (by omega)) ss_RX11_299 rfl ⟨⟨by decide, by decide⟩, ⟨by decide, by decide⟩⟩ (Nat.le_of_ble_eq_true rfl) (fun r1 s1 p1 => ?_)
    obtain ⟨rfl, rfl⟩ := p1
    refine V_ifneB (tgt := 9) dX11_tray_4 (by decide) (fun br4 => ?_) (fun br4 => ?_)
    · exact absurd br4 hp
    · refine V_iconst dX11_tray_7 ?_
      refine V_iret dX11_tray_8 rfl (Nat.le_of_ble_eq_true rfl) (Nat.le_of_ble_eq_true rfl) ?_
      exact no _ (fun z => hp z.1) (if_neg hp).symm