theorem SR.cut {σ : St} {w : Nat → Int} (h : SR σ 9 w) {q : Nat} (hq : q = 4 ∨ q = 5 ∨ q = 6) {v : Int} (hv : v ≤ w q) : SR (setG σ 9 q v) 9 (up1 w q v) := by
  obtain ⟨y1, y2, y3, y4, y5⟩ := h
  have o : ∀ j, j ≠ q → up1 w q v j = w j := fun j hj => up1_ne _ hj _
  have b3 : ∀ c, 93 ≤ c → gG (setG σ 9 q v) c = gG σ c := fun c hc => up1_ne _ (by omega) _
  have le : ∀ j, up1 w q v j ≤ w j := fun j => by
    by_cases e : j = q
    · subst e; rw [up1_is]; exact hv
    · rw [o j e]; exact Int.le_refl _
  have f : ∀ j, gG σ 9 j = w j → gG (setG σ 9 q v) 9 j = up1 w q v j := fun j hj => by
    by_cases e : j = q
    · subst e; rw [gG_is, up1_is]
    · rw [gG_ne _ _ (Or.inr e), o j e]; exact hj
  refine ⟨?_, ⟨f 4 y2.1, f 5 y2.2.1, f 6 y2.2.2⟩, fun i hi => ?_, fun i hi => ?_, fun i hi => ?_⟩
  · rw [o 0 (by omega), o 1 (by omega), o 2 (by omega), o 3 (by omega)]
    exact y1
  · obtain ⟨c, z1, z2, z3, z4⟩ := y3 i (Int.lt_of_lt_of_le hi (le 4))
    refine ⟨c, z1, z2, z3, ?_⟩
    rw [b3 c z2, o _ (by omega), o _ (by omega), o _ (by omega), o _ (by omega)]
    exact z4
  · obtain ⟨c, z1, z2, z3, z4⟩ := y4 i (Int.lt_of_lt_of_le hi (le 5))
    refine ⟨c, z1, z2, z3, ?_⟩
    rw [b3 c z2, o _ (by omega), o _ (by omega), o _ (by omega)]
    exact z4
  · obtain ⟨c, z1, z2, z3, z4⟩ := y5 i (Int.lt_of_lt_of_le hi (le 6))
    refine ⟨c, z1, z2, z3, ?_⟩
    rw [b3 c z2, o _ (by omega)]
    exact z4
theorem CL.cut {σ : St} {A : Ab} (h : CL σ A) {q : Nat} (hq : q = 4 ∨ q = 5 ∨ q = 6) {v : Int} (hv : v ≤ aW A q) : CL (setG σ 9 q v) (sW A (up1 (aW A) q v)) := by
  refine h.setW (h.1.onG _ _ _) rfl rfl rfl (fun _ _ _ => rfl) (fun a h1 h2 => up1_ne _ h1 _) (h.2.1.cut hq hv) ?_ (fun i hi => up1_ne _ (by omega) _)
  by_cases e : 4 = q
  · subst e; rw [up1_is]; exact hv
  · rw [up1_ne _ e]; exact Int.le_refl _
def dropV (A : Ab) (q : Nat) : Int := if 0 < aW A q then aW A q - 1 else -3
def dropN (A : Ab) (q : Nat) : Ab := if 0 < aW A q then sW A (up1 (aW A) q (aW A q - 1)) else A
theorem drop_t {σ : St} {A : Ab} (hC : CL σ A) {q : Nat} (hq : q = 4 ∨ q = 5 ∨ q = 6) (h : 0 < aW A q) : PC (dropV A q) (dropN A q) σ (some (vi (aW A q - 1))) (setG σ 9 q (aW A q - 1)) := by
  unfold dropV dropN
  rw [if_pos h, if_pos h]
  exact PC_i rfl (hC.cut hq (by omega)) ((FM.rf σ).onG _ _ (by decide))
theorem drop_f {σ : St} {A : Ab} (hC : CL σ A) {q : Nat} (h : ¬ 0 < aW A q) : PC (dropV A q) (dropN A q) σ (some (vi (-3))) σ := by
  unfold dropV dropN
  rw [if_neg h, if_neg h]
  exact PC_i rfl hC (FM.rf σ)
theorem c_dropStave (g : Gl) (σ : St) (A : Ab) (N : Nat) (hC : CL σ A) (hA : AI A N) : Ct g mX7_dropStave 0 0 0 [vq (some 9)] σ (PC (dropV A 4) (dropN A 4) σ) := by
  refine Ct.of (by decide +kernel) (Nat.le_of_ble_eq_true rfl) ?_
  have hS := hC.1
  have n := (hC.xs hA).n4
  refine V_aload_n dX7_dropStave_0 rfl ?_
  refine V_getfi dX7_dropStave_1 sf_RX7_33 rfl (sh hS rfl) ?_
  refine V_val n.1 ?_
  refine V_ifle (tgt := 21) dX7_dropStave_4 (by decide) (by omega) (fun br4 => ?_) (fun br4 => ?_)
  · refine V_bipush dX7_dropStave_21 (by decide) ?_
    refine V_iret dX7_dropStave_23 rfl (Nat.le_refl _) (Nat.le_refl _) ?_
    first | exact drop_t hC (by decide) (by omega) | exact drop_f hC (by omega)
  · refine V_aload_n dX7_dropStave_7 rfl ?_
    refine V_dup dX7_dropStave_8 rfl ?_
    refine V_getfi dX7_dropStave_9 sf_RX7_33 rfl (sh hS rfl) ?_
    refine V_val n.1 ?_
    refine V_iconst dX7_dropStave_12 ?_
    refine V_isub dX7_dropStave_13 ?_
    refine V_dup_x1 dX7_dropStave_14 rfl ?_
    refine V_puti dX7_dropStave_15 (sp_RX7_33 _) rfl (sh hS rfl) ?_
    refine V_goto (tgt := 23) dX7_dropStave_18 (by decide) ?_
    refine V_iret dX7_dropStave_23 rfl (Nat.le_refl _) (Nat.le_refl _) ?_
    first | exact drop_t hC (by decide) (by omega) | exact drop_f hC (by omega)
theorem c_dropHoop (g : Gl) (σ : St) (A : Ab) (N : Nat) (hC : CL σ A) (hA : AI A N) : Ct g mX7_dropHoop 0 0 0 [vq (some 9)] σ (PC (dropV A 5) (dropN A 5) σ) := by
  refine Ct.of (by decide +kernel) (Nat.le_of_ble_eq_true rfl) ?_
  have hS := hC.1
  have n := (hC.xs hA).n5
  refine V_aload_n dX7_dropHoop_0 rfl ?_
  refine V_getfi dX7_dropHoop_1 sf_RX7_37 rfl (sh hS rfl) ?_
  refine V_val n.1 ?_
  refine V_ifle (tgt := 21) dX7_dropHoop_4 (by decide) (by omega) (fun br4 => ?_) (fun br4 => ?_)
  · refine V_bipush dX7_dropHoop_21 (by decide) ?_
    refine V_iret dX7_dropHoop_23 rfl (Nat.le_refl _) (Nat.le_refl _) ?_
    first | exact drop_t hC (by decide) (by omega) | exact drop_f hC (by omega)
  · refine V_aload_n dX7_dropHoop_7 rfl ?_
    refine V_dup dX7_dropHoop_8 rfl ?_
    refine V_getfi dX7_dropHoop_9 sf_RX7_37 rfl (sh hS rfl) ?_
    refine V_val n.1 ?_
    refine V_iconst dX7_dropHoop_12 ?_
    refine V_isub dX7_dropHoop_13 ?_
    refine V_dup_x1 dX7_dropHoop_14 rfl ?_
    refine V_puti dX7_dropHoop_15 (sp_RX7_37 _) rfl (sh hS rfl) ?_
    refine V_goto (tgt := 23) dX7_dropHoop_18 (by decide) ?_
    refine V_iret dX7_dropHoop_23 rfl (Nat.le_refl _) (Nat.le_refl _) ?_
    first | exact drop_t hC (by decide) (by omega) | exact drop_f hC (by omega)
theorem c_dropBoard (g : Gl) (σ : St) (A : Ab) (N : Nat) (hC : CL σ A) (hA : AI A N) : Ct g mX7_dropBoard 0 0 0 [vq (some 9)] σ (PC (dropV A 6) (dropN A 6) σ) := by
  refine Ct.of (by decide +kernel) (Nat.le_of_ble_eq_true rfl) ?_
  have hS := hC.1
  have n := (hC.xs hA).n6
  refine V_aload_n dX7_dropBoard_0 rfl ?_
  refine V_getfi dX7_dropBoard_1 sf_RX7_40 rfl (sh hS rfl) ?_
  refine V_val n.1 ?_
  refine V_ifle (tgt := 21) dX7_dropBoard_4 (by decide) (by omega) (fun br4 => ?_) (fun br4 => ?_)
  · refine V_bipush dX7_dropBoard_21 (by decide) ?_
    refine V_iret dX7_dropBoard_23 rfl (Nat.le_refl _) (Nat.le_refl _) ?_
    first | exact drop_t hC (by decide) (by omega) | exact drop_f hC (by omega)
  · refine V_aload_n dX7_dropBoard_7 rfl ?_
    refine V_dup dX7_dropBoard_8 rfl ?_
    refine V_getfi dX7_dropBoard_9 sf_RX7_40 rfl (sh hS rfl) ?_
    refine V_val n.1 ?_
    refine V_iconst dX7_dropBoard_12 ?_
    refine V_isub dX7_dropBoard_13 ?_
    refine V_dup_x1 dX7_dropBoard_14 rfl ?_
    refine V_puti dX7_dropBoard_15 (sp_RX7_40 _) rfl (sh hS rfl) ?_
    refine V_goto (tgt := 23) dX7_dropBoard_18 (by decide) ?_
    refine V_iret dX7_dropBoard_23 rfl (Nat.le_refl _) (Nat.le_refl _) ?_
    first | exact drop_t hC (by decide) (by omega) | exact drop_f hC (by omega)
def takesV (A : Ab) (what : Int) : Int := if 0 ≤ what ∧ what ≤ 2 then dropV A (4 + what.toNat) else -2
def takesN (A : Ab) (what : Int) : Ab := if 0 ≤ what ∧ what ≤ 2 then dropN A (4 + what.toNat) else A
theorem c_takes (g : Gl) (σ : St) (A : Ab) (N : Nat) (hC : CL σ A) (hA : AI A N) (what : Int) (h1 : inR what) : Ct g mX11_takes 1 0 0 [vq (some 8), vi what] σ (PC (takesV A what) (takesN A what) σ) := by
  refine Ct.of (by decide +kernel) (Nat.le_of_ble_eq_true rfl) ?_
  have hS := hC.1
  have t : ∀ k : Nat, k ≤ 2 → ∀ (r : Option MV) (τ : St), PC (dropV A (4 + k)) (dropN A (4 + k)) σ r τ → PC (takesV A (k : Int)) (takesN A (k : Int)) σ r τ := by
    intro k hk r τ h
    unfold takesV takesN
    rw [if_pos (by omega), if_pos (by omega), Int.toNat_natCast]
    exact h
  refine V_iload_n dX11_takes_0 rfl ?_
  refine V_tsw3 (td := 52) (t0 := 28) (t1 := 36) (t2 := 44) dX11_takes_1 (by omega) rfl (by decide) (by decide) (by decide) (by decide) (fun br1 => ?_) (fun br1 => ?_) (fun br1 => ?_) (fun br1 => ?_)
  · refine V_bipush dX11_takes_52 (by decide) ?_
    refine V_iret dX11_takes_54 rfl (Nat.le_refl _) (Nat.le_refl _) ?_
    unfold takesV takesN
    rw [if_neg (by omega), if_neg (by omega)]
    exact PC_i rfl hC (FM.rf σ)
  · refine V_aload_n dX11_takes_28 rfl ?_
    refine V_getfr dX11_takes_29 sf_RX11_12 (by decide) (sh hS rfl) (rf hS rfl) ?_
    refine V_callV dX11_takes_32 (c_dropStave g _ A N hC hA) sv_RX11_160 (sh hS rfl) rfl ⟨⟨by decide, by decide⟩, ⟨by decide, by decide⟩⟩ (Nat.le_of_ble_eq_true rfl) (fun r32 s32 p32 => ?_)
    obtain ⟨rfl, p32b⟩ := p32
    have e : what = ((0 : Nat) : Int) := by omega
    refine V_iret dX11_takes_35 rfl (Nat.le_refl _) (Nat.le_refl _) ?_
    rw [e]; exact t 0 (by decide) _ _ ⟨rfl, p32b⟩
  · refine V_aload_n dX11_takes_36 rfl ?_
    refine V_getfr dX11_takes_37 sf_RX11_12 (by decide) (sh hS rfl) (rf hS rfl) ?_
    refine V_callV dX11_takes_40 (c_dropHoop g _ A N hC hA) sv_RX11_163 (sh hS rfl) rfl ⟨⟨by decide, by decide⟩, ⟨by decide, by decide⟩⟩ (Nat.le_of_ble_eq_true rfl) (fun r40 s40 p40 => ?_)
    obtain ⟨rfl, p40b⟩ := p40
    have e : what = ((1 : Nat) : Int) := by omega
    refine V_iret dX11_takes_43 rfl (Nat.le_refl _) (Nat.le_refl _) ?_
    rw [e]; exact t 1 (by decide) _ _ ⟨rfl, p40b⟩
  · refine V_aload_n dX11_takes_44 rfl ?_
    refine V_getfr dX11_takes_45 sf_RX11_12 (by decide) (sh hS rfl) (rf hS rfl) ?_
    refine V_callV dX11_takes_48 (c_dropBoard g _ A N hC hA) sv_RX11_166 (sh hS rfl) rfl ⟨⟨by decide, by decide⟩, ⟨by decide, by decide⟩⟩ (Nat.le_of_ble_eq_true rfl) (fun r48 s48 p48 => ?_)
    obtain ⟨rfl, p48b⟩ := p48
    have e : what = ((2 : Nat) : Int) := by omega
    refine V_iret dX11_takes_51 rfl (Nat.le_refl _) (Nat.le_refl _) ?_
    rw [e]; exact t 2 (by decide) _ _ ⟨rfl, p48b⟩
def ruleV (what v : Int) : Int := if 0 ≤ what ∧ what ≤ 3 then (if okR what v then 1 else -2) else -1
def ruleN (A : Ab) (what v : Int) : Ab := if okR what v then sW A (up1 (aW A) what.toNat v) else A
theorem CL.rule {σ : St} {A : Ab} (h : CL σ A) {k : Nat} (hk : k < 4) (v : Int) : CL (setG σ 13 k v) (sW A (up1 (aW A) k v)) := by
  have o : ∀ j, 4 ≤ j → up1 (aW A) k v j = aW A j := fun j hj => up1_ne _ (by omega) _
  refine h.setW (h.1.onG _ _ _) rfl rfl rfl (fun _ _ _ => rfl) (fun a h1 h2 => up1_ne _ h2 _) ?_ (Int.le_of_eq (o 4 (by decide))) (fun i hi => o _ (by omega))
  obtain ⟨y1, y2, y3, y4, y5⟩ := h.2.1
  have f : ∀ j, gG σ 13 j = aW A j → gG (setG σ 13 k v) 13 j = up1 (aW A) k v j := fun j hj => by
    by_cases e : j = k
    · subst e; rw [gG_is, up1_is]
    · rw [gG_ne _ _ (Or.inr e), up1_ne _ e]; exact hj
  have b3 : ∀ c, 93 ≤ c → gG (setG σ 13 k v) c = gG σ c := fun c hc => up1_ne _ (by omega) _
  refine ⟨⟨f 0 y1.1, f 1 y1.2.1, f 2 y1.2.2.1, f 3 y1.2.2.2⟩, ?_, fun i hi => ?_, fun i hi => ?_, fun i hi => ?_⟩
  · rw [o 4 (by omega), o 5 (by omega), o 6 (by omega)]
    exact y2
  · obtain ⟨c, z1, z2, z3, z4⟩ := y3 i (by rwa [o 4 (by omega)] at hi)
    refine ⟨c, z1, z2, z3, ?_⟩
    rw [b3 c z2, o _ (by omega), o _ (by omega), o _ (by omega), o _ (by omega)]
    exact z4
  · obtain ⟨c, z1, z2, z3, z4⟩ := y4 i (by rwa [o 5 (by omega)] at hi)
    refine ⟨c, z1, z2, z3, ?_⟩
    rw [b3 c z2, o _ (by omega), o _ (by omega), o _ (by omega)]
    exact z4
  · obtain ⟨c, z1, z2, z3, z4⟩ := y5 i (by rwa [o 6 (by omega)] at hi)
    refine ⟨c, z1, z2, z3, ?_⟩
    rw [b3 c z2, o _ (by omega)]
    exact z4
theorem c_rule (g : Gl) (σ : St) (A : Ab) (N : Nat) (hC : CL σ A) (hA : AI A N) (what v : Int) (h1 : inR what) (h2 : inR v) : Ct g mX11_rule 2 0 0 [vq (some 8), vi what, vi v] σ (PC (ruleV what v) (ruleN A what v) σ) := by
  refine Ct.of (by decide +kernel) (Nat.le_of_ble_eq_true rfl) ?_
  have hS := hC.1
  refine V_iload_n dX11_rule_0 rfl ?_
  refine V_iconst dX11_rule_1 ?_
  refine V_iconst dX11_rule_2 ?_
  refine V_callS dX11_rule_3 (c_isIn g _ _ _ _ (by omega) (by omega) (by omega)) ss_RX11_107 rfl ⟨⟨by decide, by decide⟩, ⟨by decide, by decide⟩⟩ (Nat.le_of_ble_eq_true rfl) (fun r3 s3 p3 => ?_)
  obtain ⟨rfl, rfl⟩ := p3
  refine V_ifneB (tgt := 11) dX11_rule_6 (by decide) (fun br6 => ?_) (fun br6 => ?_)
  · refine V_iload_n dX11_rule_11 rfl ?_
    refine V_iload_n dX11_rule_12 rfl ?_
    refine V_callS dX11_rule_13 (c_canRule g _ what v h1 h2) ss_RX11_110 rfl ⟨⟨by decide, by decide⟩, ⟨by decide, by decide⟩⟩ (Nat.le_of_ble_eq_true rfl) (fun r13 s13 p13 => ?_)
    obtain ⟨rfl, rfl⟩ := p13
    refine V_ifneB (tgt := 22) dX11_rule_16 (by decide) (fun br16 => ?_) (fun br16 => ?_)
    · refine V_aload_n dX11_rule_22 rfl ?_
      refine V_getfr dX11_rule_23 sf_RX11_12 (by decide) (sh hS rfl) (rf hS rfl) ?_
      refine V_getfr dX11_rule_26 sf_RX11_114 (by decide) (sh hS rfl) (rf hS rfl) ?_
      refine V_iload_n dX11_rule_29 rfl ?_
      refine V_iload_n dX11_rule_30 rfl ?_
      refine V_iast dX11_rule_31 (sh hS rfl) (by omega) ?_
      refine V_iconst dX11_rule_32 ?_
      refine V_iret dX11_rule_33 rfl (Nat.le_refl _) (Nat.le_refl _) ?_
      unfold ruleV ruleN
      rw [if_pos br6, if_pos br16, if_pos br16]
      exact PC_i rfl (hC.rule (by omega) v) ((FM.rf σ).onG _ _ (by decide))
    · refine V_bipush dX11_rule_19 (by decide) ?_
      refine V_iret dX11_rule_21 rfl (Nat.le_refl _) (Nat.le_refl _) ?_
      unfold ruleV ruleN
      rw [if_pos br6, if_neg br16, if_neg br16]
      exact PC_i rfl hC (FM.rf σ)
  · refine V_iconst dX11_rule_9 ?_
    refine V_iret dX11_rule_10 rfl (Nat.le_refl _) (Nat.le_refl _) ?_
    unfold ruleV ruleN
    rw [if_neg br6, if_neg (by unfold okR; omega)]
    exact PC_i rfl hC (FM.rf σ)