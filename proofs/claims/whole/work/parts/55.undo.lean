/-- the row that comes back: its staves have new ids -/
def undW (A : Ab) : Nat → Nat → Int
  | 0 => pour (aO A) (aW A)
  | n + 1 => up1 (undW A n) (43 + n) (aC A 1 + n + 1)
def undN (A : Ab) : Ab := (undW A (nS (aO A)), aO A, up1 (aC A) 1 (aC A 1 + nS (aO A)), A.2.2.2)
theorem undW_o {A : Ab} {k : Nat} (hk : k < 77) : ∀ n : Nat, (k < 43 ∨ 43 + n ≤ k) → undW A n k = aO A k
  | 0, _ => pour_at hk
  | n + 1, h => by
    unfold undW
    rw [up1_ne _ (by omega)]
    exact undW_o hk n (by omega)
theorem undW_i {A : Ab} {i : Nat} : ∀ n : Nat, i < n → undW A n (43 + i) = aC A 1 + i + 1
  | 0, h => absurd h (Nat.not_lt_zero i)
  | n + 1, h => by
    unfold undW
    by_cases e : i = n
    · subst e; exact up1_is _ _ _
    · rw [up1_ne _ (by omega)]
      exact undW_i n (by omega)
theorem CL.undo {σ τ : St} {A : Ab} {N : Nat} (hC : CL σ A) (hA : AI A N) (hi1 : aC A 0 = 1) (hB : BL 9 14 σ τ (aO A)) : CL τ (undN A) := by
  have hF := hB.1
  have h93 := hC.1.1
  have hO := hA.2.1.2 hi1
  have hN := wf_n hO
  have zz := hF.z (Or.inl rfl) h93 hC.z
  have s14 := hF.sr (m := 14) (Or.inl ⟨rfl, rfl⟩) hC.2.2.2.1 h93 (hC.2.2.2.2.1.2 hi1).1
  have wo : ∀ k, k < 77 → (k < 43 ∨ 51 < k) → aW (undN A) k = aO A k := fun k hk h => undW_o hk _ (by omega)
  have s9 := hB.2.1.cong hO (v := aW (undN A)) wo
  have w4 : aW (undN A) 4 = aO A 4 := wo 4 (by decide) (by decide)
  have p15 := (hF.2.2.2 15 (by omega)).2.2.2 (by decide) (by decide) (by decide)
  have f8 := (hF.2.2.2 8 (by omega)).2.2.1 (by decide) (by decide)
  have f20 := (hF.2.2.2 20 (by omega)).2.2.1 (by decide) (by decide)
  have f21 := (hF.2.2.2 21 (by omega)).2.2.1 (by decide) (by decide)
  have hC0 := hC
  obtain ⟨c1, c2, c3, c4, c5, c6, c7, c8, c9, c10⟩ := hC
  refine ⟨hF.2.2.1, s9, zz, hF.2.1, ⟨by rw [f8]; exact c5.1, fun _ => ⟨s14, fun i j hi hj => ?_⟩⟩, ⟨by rw [f20]; exact c6.1, by rw [f21]; exact c6.2⟩, by rw [f8]; exact c7, fun i j hi hj e => ?_, fun p hp => ?_, ?_⟩
  · rw [w4] at hi
    rw [p15]
    intro e
    obtain ⟨b, z1, z2, z3⟩ := hB.2.2.1 i (by omega)
    obtain ⟨c, y1, y2, y3, y4⟩ := (c5.2 hi1).1.2.2.1 j hj
    have := hC0.lt y3
    have e2 := z1.symm.trans (e.trans y1)
    cases e2
    omega
  · rw [w4] at hi hj
    exact hB.2.2.2 i j (by omega) (by omega) e
  · refine (c9 p hp).bf (B := undN A) hF (Or.inl rfl) h93 c4 rfl rfl rfl (fun _ => rfl) (fun b hb h19 h i hi => ?_)
    rw [w4] at hi
    have e : aW (undN A) (43 + i) = aC A 1 + i + 1 := undW_i (nS (aO A)) (by omega)
    rw [e]
    obtain ⟨c, z1, z2, z3⟩ := hB.2.2.1 i (by omega)
    have b1 := (hA.2.2.2.2.2.2 p hp).2.2.2.2.2
    refine ⟨fun e => ?_, fun e => ?_⟩
    · exfalso
      have e2 := z1.symm.trans e
      cases e2
      omega
    · exfalso
      have b2 : aC A 1 + i + 1 = aI A p := e
      omega
  · exact trays_bf hC0 hF (Or.inl rfl) (fun _ => rfl)
def undoV (A : Ab) : Int := if aC A 0 = 1 then aO A 4 else -3
def undoN (A : Ab) : Ab := if aC A 0 = 1 then undN A else A
theorem c_undo (g : Gl) (σ : St) (A : Ab) (N : Nat) (hC : CL σ A) (hA : AI A N) : Ct g mX11_undo 5 9 36 [vq (some 8)] σ (PC (undoV A) (undoN A) σ) := by
  refine Ct.of (by decide +kernel) (Nat.le_of_ble_eq_true rfl) ?_
  have hS := hC.1
  have h0 : gG σ 8 2 = aC A 0 := hC.2.2.2.2.1.1
  have h1 := hA.2.1.1
  refine V_aload_n dX11_undo_0 rfl ?_
  refine V_getfi dX11_undo_1 sf_RX11_21 rfl (sh hS rfl) ?_
  refine V_val h0 ?_
  refine V_ifne (tgt := 10) dX11_undo_4 (by decide) (by omega) (fun br4 => ?_) (fun br4 => ?_)
  · have hi1 : aC A 0 = 1 := by omega
    refine V_aload_n dX11_undo_10 rfl ?_
    refine V_getfr dX11_undo_11 sf_RX11_12 (by decide) (sh hS rfl) (rf hS rfl) ?_
    refine V_aload_n dX11_undo_14 rfl ?_
    refine V_getfr dX11_undo_15 sf_RX11_18 (by decide) (sh hS rfl) (rf hS rfl) ?_
    refine V_callV dX11_undo_18 (c_becomeLike9 g _ (aO A) hS hC.2.2.2.1 (hC.2.2.2.2.1.2 hi1).1 (hA.2.1.2 hi1)) sv_RX11_370 (sh hS rfl) rfl ⟨⟨by decide, by decide⟩, ⟨by decide, by decide⟩⟩ (Nat.le_of_ble_eq_true rfl) (fun r18 s18 p18 => ?_)
    obtain ⟨rfl, hB⟩ := p18
    have hS := hB.1.2.2.1
    refine V_aload_n dX11_undo_21 rfl ?_
    refine V_getfr dX11_undo_22 sf_RX11_12 (by decide) (sh hS rfl) (rf hS rfl) ?_
    refine V_getfi dX11_undo_25 sf_RX11_118 rfl (sh hS rfl) ?_
    refine V_val (show _ = aO A 4 from hB.2.1.2.1.1) ?_
    refine V_iret dX11_undo_28 rfl (Nat.le_of_ble_eq_true rfl) (Nat.le_of_ble_eq_true rfl) ?_
    unfold undoV undoN
    rw [if_pos hi1, if_pos hi1]
    exact PC_i rfl (hC.undo hA hi1 hB) (hB.1.fm (Or.inl rfl) hC.1.1)
  · refine V_bipush dX11_undo_7 (by decide) ?_
    refine V_iret dX11_undo_9 rfl (Nat.le_of_ble_eq_true rfl) (Nat.le_of_ble_eq_true rfl) ?_
    unfold undoV undoN
    rw [if_neg (show ¬ aC A 0 = 1 by omega), if_neg (show ¬ aC A 0 = 1 by omega)]
    exact PC_i rfl hC (FM.rf σ)