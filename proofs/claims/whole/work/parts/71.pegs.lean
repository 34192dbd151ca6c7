/-! what hangs on pegs: kinds under kinds, trays -/
def kuF (T : Nat → Int) (L : Nat) : Nat → Int → Int → Bool
  | 0, _, _ => false
  | m + 1, x, w => if 0 ≤ x ∧ x < (L : Int) then (if x = w then true else kuF T L m (T x.toNat) w) else false
theorem c_isUnder (g : Gl) (σ : St) (a L : Nat) (ha : a < 5) (hL : roN g a = L) (hL2 : L ≤ 100) (hT : ∀ i, i < L → inR (roC g a i)) (kind wanted : Int) (h1 : inR kind) (h2 : inR wanted) :
    Ct g mX11_isUnder 0 0 0 [vi kind, vi wanted, vq (some a)] σ (rP (vi (bI (kuF (roC g a) L L kind wanted = true))) σ) := by
  refine Ct.of (by decide +kernel) (Nat.le_of_ble_eq_true rfl) ?_
  have loop : ∀ (m k : Nat) (x : Int), k + m = L → inR x → kuF (roC g a) L L kind wanted = kuF (roC g a) L m x wanted →
      V g mX11_isUnder (rmD 0 0 0) (QM g 0 0 (rP (vi (bI (kuF (roC g a) L L kind wanted = true))) σ)) 5 [none, some (vi wanted), some (vq (some a)), some (vi x), some (vi (k : Int))] [] 0 0 σ := by
    intro m
    induction m with
    | zero =>
      intro k x hk hx he
      have no : ¬ kuF (roC g a) L L kind wanted = true := by rw [he]; exact fun z => by cases z
      refine V_iload dX11_isUnder_5 rfl ?_
      refine V_aload_n dX11_isUnder_7 rfl ?_
      refine V_rolen dX11_isUnder_8 ha ?_
      refine V_val (show _ = (L : Int) by rw [hL]) ?_
      refine V_icmpge (tgt := 39) dX11_isUnder_9 (by decide) (by omega) (by omega) (fun br9 => ?_) (fun br9 => ?_)
      · refine V_iconst dX11_isUnder_39 ?_
        refine V_zret dX11_isUnder_40 rfl (Nat.le_refl _) (Nat.le_refl _) (by first | omega | exact bI_01 _) ?_
        exact rP_f no
      · omega
    | succ m ih =>
      intro k x hk hx he
      refine V_iload dX11_isUnder_5 rfl ?_
      refine V_aload_n dX11_isUnder_7 rfl ?_
      refine V_rolen dX11_isUnder_8 ha ?_
      refine V_val (show _ = (L : Int) by rw [hL]) ?_
      refine V_icmpge (tgt := 39) dX11_isUnder_9 (by decide) (by omega) (by omega) (fun br9 => ?_) (fun br9 => ?_)
      · omega
      · refine V_iload_n dX11_isUnder_12 rfl ?_
        refine V_iflt (tgt := 39) dX11_isUnder_13 (by decide) (by omega) (fun br13 => ?_) (fun br13 => ?_)
        · refine V_iconst dX11_isUnder_39 ?_
          refine V_zret dX11_isUnder_40 rfl (Nat.le_refl _) (Nat.le_refl _) (by first | omega | exact bI_01 _) ?_
          exact rP_f (by rw [he]; unfold kuF; rw [if_neg (by omega)]; exact fun z => by cases z)
        · refine V_iload_n dX11_isUnder_16 rfl ?_
          refine V_aload_n dX11_isUnder_17 rfl ?_
          refine V_rolen dX11_isUnder_18 ha ?_
          refine V_val (show _ = (L : Int) by rw [hL]) ?_
          refine V_icmpge (tgt := 39) dX11_isUnder_19 (by decide) (by omega) (by omega) (fun br19 => ?_) (fun br19 => ?_)
          · refine V_iconst dX11_isUnder_39 ?_
            refine V_zret dX11_isUnder_40 rfl (Nat.le_refl _) (Nat.le_refl _) (by first | omega | exact bI_01 _) ?_
            exact rP_f (by rw [he]; unfold kuF; rw [if_neg (by omega)]; exact fun z => by cases z)
          · refine V_iload_n dX11_isUnder_22 rfl ?_
            refine V_iload_n dX11_isUnder_23 rfl ?_
            refine V_icmpne (tgt := 29) dX11_isUnder_24 (by decide) (by omega) (by omega) (fun br24 => ?_) (fun br24 => ?_)
            · refine V_aload_n dX11_isUnder_29 rfl ?_
              refine V_iload_n dX11_isUnder_30 rfl ?_
              refine V_rold dX11_isUnder_31 ha (show 0 ≤ x ∧ x < (roN g a : Int) by rw [hL]; omega) ?_
              refine V_istore_n dX11_isUnder_32 (by decide) rfl ?_
              refine V_iinc dX11_isUnder_33 rfl (by decide) rfl ?_
              refine V_goto (tgt := 5) dX11_isUnder_36 (by decide) ?_
              refine V_mask [false, true, true, true, true] ?_
              exact ih (k + 1) _ (by omega) (hT _ (by omega)) (by rw [he]; show (if _ then _ else _) = _; rw [if_pos (by omega), if_neg br24])
            · refine V_iconst dX11_isUnder_27 ?_
              refine V_zret dX11_isUnder_28 rfl (Nat.le_refl _) (Nat.le_refl _) (by first | omega | exact bI_01 _) ?_
              exact rP_t (by rw [he]; unfold kuF; rw [if_pos (by omega), if_pos br24])
  refine V_iload_n dX11_isUnder_0 rfl ?_
  refine V_istore_n dX11_isUnder_1 (by decide) rfl ?_
  refine V_iconst dX11_isUnder_2 ?_
  refine V_istore dX11_isUnder_3 (by decide) rfl ?_
  refine V_mask [false, true, true, true, true] ?_
  exact loop L 0 kind (Nat.zero_add L) h1 rfl
abbrev undS (k w : Int) : Prop := w = 0 ∨ k = w ∨ (w = 1 ∧ k = 4) ∨ (w = 2 ∧ k = 3)
abbrev undH (k w : Int) : Prop := w = 0 ∨ k = w ∨ (w = 1 ∧ k = 3)
theorem kuF_s (g : Gl) : ∀ k : Nat, k < 5 → ∀ w : Nat, w < 5 → (kuF (roC g 2) 5 5 (k : Int) (w : Int) = true ↔ undS (k : Int) (w : Int)) := by
  have e : roC g 2 = roL [-1, 0, 0, 2, 1] := rfl
  rw [e]
  decide +kernel
theorem kuF_h (g : Gl) : ∀ k : Nat, k < 4 → ∀ w : Nat, w < 4 → (kuF (roC g 3) 4 4 (k : Int) (w : Int) = true ↔ undH (k : Int) (w : Int)) := by
  have e : roC g 3 = roL [-1, 0, 0, 1] := rfl
  rw [e]
  decide +kernel
theorem c_underS (g : Gl) (σ : St) (k w : Int) (hk : 0 ≤ k ∧ k ≤ 4) (hw : 0 ≤ w ∧ w ≤ 4) : Ct g mX11_isUnder 0 0 0 [vi k, vi w, vq (some 2)] σ (rP (vi (bI (undS k w))) σ) := by
  have h := c_isUnder g σ 2 5 (by decide) rfl (by decide) (show ∀ i, i < 5 → inR (roL [-1, 0, 0, 2, 1] i) by unfold inR; decide) k w (by omega) (by omega)
  obtain ⟨n, rfl⟩ : ∃ n : Nat, k = (n : Int) := ⟨k.toNat, by omega⟩
  obtain ⟨m, rfl⟩ : ∃ n : Nat, w = (n : Int) := ⟨w.toNat, by omega⟩
  rw [bI_eq (kuF_s g n (by omega) m (by omega))] at h
  exact h
theorem c_underH (g : Gl) (σ : St) (k w : Int) (hk : 0 ≤ k ∧ k ≤ 3) (hw : 0 ≤ w ∧ w ≤ 3) : Ct g mX11_isUnder 0 0 0 [vi k, vi w, vq (some 3)] σ (rP (vi (bI (undH k w))) σ) := by
  have h := c_isUnder g σ 3 4 (by decide) rfl (by decide) (show ∀ i, i < 4 → inR (roL [-1, 0, 0, 1] i) by unfold inR; decide) k w (by omega) (by omega)
  obtain ⟨n, rfl⟩ : ∃ n : Nat, k = (n : Int) := ⟨k.toNat, by omega⟩
  obtain ⟨m, rfl⟩ : ∃ n : Nat, w = (n : Int) := ⟨w.toNat, by omega⟩
  rw [bI_eq (kuF_h g n (by omega) m (by omega))] at h
  exact h
def kdN (what : Int) : Int := if what = 0 then 5 else if what = 1 then 4 else 1
theorem c_kindsOf (g : Gl) (σ : St) (what : Int) (h : inR what) : Ct g mX11_kindsOf 0 0 0 [vi what] σ (rP (vi (kdN what)) σ) := by
  refine Ct.of (by decide +kernel) (Nat.le_of_ble_eq_true rfl) ?_
  refine V_iload_n dX11_kindsOf_0 rfl ?_
  refine V_lsw2 (td := 38) (t0 := 28) (t1 := 33) dX11_kindsOf_1 (by omega) rfl (by decide) (by decide) (by decide) (fun br1_0 br1_1 => ?_) (fun br1 => ?_) (fun br1 => ?_)
  · refine V_iconst dX11_kindsOf_38 ?_
    refine V_iret dX11_kindsOf_39 rfl (Nat.le_refl _) (Nat.le_refl _) ?_
    exact rP_i (by unfold kdN; first | (rw [if_pos (by omega)]; rfl) | (rw [if_neg (by omega), if_pos (by omega)]; rfl) | rw [if_neg (by omega), if_neg (by omega)]) rfl
  · refine V_gets (a := 2) dX11_kindsOf_28 (by decide) sg_RX11_317 ?_
    refine V_rolen dX11_kindsOf_31 (by decide) ?_
    refine V_iret dX11_kindsOf_32 rfl (Nat.le_refl _) (Nat.le_refl _) ?_
    exact rP_i (by unfold kdN; first | (rw [if_pos (by omega)]; rfl) | (rw [if_neg (by omega), if_pos (by omega)]; rfl) | rw [if_neg (by omega), if_neg (by omega)]) rfl
  · refine V_gets (a := 3) dX11_kindsOf_33 (by decide) sg_RX11_324 ?_
    refine V_rolen dX11_kindsOf_36 (by decide) ?_
    refine V_iret dX11_kindsOf_37 rfl (Nat.le_refl _) (Nat.le_refl _) ?_
    exact rP_i (by unfold kdN; first | (rw [if_pos (by omega)]; rfl) | (rw [if_neg (by omega), if_pos (by omega)]; rfl) | rw [if_neg (by omega), if_neg (by omega)]) rfl