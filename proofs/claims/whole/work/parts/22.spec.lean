/-! what is answered, as functions of the model's row 'now': w -/
theorem sq_bd {a : Int} (h0 : 0 ≤ a) (h1 : a ≤ 1000) : 0 ≤ a * a ∧ a * a ≤ 1000000 := by
  have x := Int.mul_le_mul h1 h1 h0 (by omega : (0 : Int) ≤ 1000)
  have y := Int.mul_nonneg h0 h0
  omega
theorem c_rootOf (g : Gl) (σ : St) (v : Int) (h0 : 0 ≤ v) (h1 : v ≤ 65535) : Ct g mX11_rootOf 0 0 0 [vi v] σ (rP (vi (rt v)) σ) := by
  refine Ct.of (by decide +kernel) (Nat.le_of_ble_eq_true rfl) ?_
  have fin : ∀ r : Int, 0 ≤ r → r * r ≤ v → v < (r + 1) * (r + 1) → V g mX11_rootOf (rmD 0 0 0) (QM g 0 0 (rP (vi (rt v)) σ)) 6 [some (vi v), some (vi r), some (vi 0), none] [] 0 0 σ := by
    intro r hr k1 k2
    refine V_iload_n dX11_rootOf_6 rfl ?_
    refine V_ifle (tgt := 30) dX11_rootOf_7 (by decide) (by omega) (fun br7 => ?_) (fun br7 => ?_)
    · refine V_iload_n dX11_rootOf_30 rfl ?_
      refine V_iret dX11_rootOf_31 rfl (Nat.le_refl _) (Nat.le_refl _) ?_
      exact rP_i (rt_uniq h0 hr k1 k2) rfl
    · omega
  have step : ∀ b c s t : Int, 0 < b → b ≤ 128 → b / 2 = c → s = 2 * b → t = b → (∀ r : Int, 0 ≤ r → r ≤ 256 - t → r * r ≤ v → v < (r + t) * (r + t) → V g mX11_rootOf (rmD 0 0 0) (QM g 0 0 (rP (vi (rt v)) σ)) 6 [some (vi v), some (vi r), some (vi c), none] [] 0 0 σ) →
      ∀ r : Int, 0 ≤ r → r ≤ 256 - s → r * r ≤ v → v < (r + s) * (r + s) → V g mX11_rootOf (rmD 0 0 0) (QM g 0 0 (rP (vi (rt v)) σ)) 6 [some (vi v), some (vi r), some (vi b), none] [] 0 0 σ := by
    intro b c s t hb0 hb1 hc hs ht ih r hr0 hr1 k1 k2
    subst hc; subst hs; subst ht
    have k3 := sq_bd (a := r + t) (by omega) (by omega)
    refine V_iload_n dX11_rootOf_6 rfl ?_
    refine V_ifle (tgt := 30) dX11_rootOf_7 (by decide) (by omega) (fun br7 => ?_) (fun br7 => ?_)
    · omega
    · refine V_iload_n dX11_rootOf_10 rfl ?_
      refine V_iload_n dX11_rootOf_11 rfl ?_
      refine V_iadd dX11_rootOf_12 ?_
      refine V_istore_n dX11_rootOf_13 (by decide) rfl ?_
      refine V_iload_n dX11_rootOf_14 rfl ?_
      refine V_iload_n dX11_rootOf_15 rfl ?_
      refine V_imul dX11_rootOf_16 ?_
      refine V_iload_n dX11_rootOf_17 rfl ?_
      refine V_icmpgt (tgt := 23) dX11_rootOf_18 (by decide) (by omega) (by omega) (fun br18 => ?_) (fun br18 => ?_)
      · rw [show r + 2 * t = (r + t) + t by omega] at k2
        refine V_iload_n dX11_rootOf_23 rfl ?_
        refine V_iconst dX11_rootOf_24 ?_
        refine V_ishr dX11_rootOf_25 (by omega) ?_
        refine V_istore_n dX11_rootOf_26 (by decide) rfl ?_
        refine V_goto (tgt := 6) dX11_rootOf_27 (by decide) ?_
        refine V_mask [true, true, true, false] ?_
        exact ih _ (by omega) (by omega) (by omega) (by first | omega | (rw [show r + 2 * t = (r + t) + t by omega] at k2; omega))
      · refine V_iload_n dX11_rootOf_21 rfl ?_
        refine V_istore_n dX11_rootOf_22 (by decide) rfl ?_
        refine V_iload_n dX11_rootOf_23 rfl ?_
        refine V_iconst dX11_rootOf_24 ?_
        refine V_ishr dX11_rootOf_25 (by omega) ?_
        refine V_istore_n dX11_rootOf_26 (by decide) rfl ?_
        refine V_goto (tgt := 6) dX11_rootOf_27 (by decide) ?_
        refine V_mask [true, true, true, false] ?_
        exact ih _ (by omega) (by omega) (by omega) (by first | omega | (rw [show r + 2 * t = (r + t) + t by omega] at k2; omega))
  refine V_iconst dX11_rootOf_0 ?_
  refine V_istore_n dX11_rootOf_1 (by decide) rfl ?_
  refine V_sipush dX11_rootOf_2 (by decide) ?_
  refine V_istore_n dX11_rootOf_5 (by decide) rfl ?_
  refine V_mask [true, true, true, false] ?_
  exact step 128 64 256 128 (by decide) (by decide) rfl rfl rfl (step 64 32 128 64 (by decide) (by decide) rfl rfl rfl (step 32 16 64 32 (by decide) (by decide) rfl rfl rfl (step 16 8 32 16 (by decide) (by decide) rfl rfl rfl (step 8 4 16 8 (by decide) (by decide) rfl rfl rfl (step 4 2 8 4 (by decide) (by decide) rfl rfl rfl (step 2 1 4 2 (by decide) (by decide) rfl rfl rfl (step 1 0 2 1 (by decide) (by decide) rfl rfl rfl (fun r x1 x2 x3 x4 => fin r x1 x3 x4)))))))) 0 (by decide) (by decide) (by omega) (by omega)
def cntK (k w : Int) : Int := if k = 1 then max 1 (w - 1) else if k = 3 then w + 2 else if k = 4 then max 1 (max 1 (w - 1) / 2) else w
def edgeK (k b : Int) : Int := if k = 2 ∨ k = 3 then b + 1 else if k = 4 then b - 2 else b
def priceK (k w t : Int) : Int := if k = 1 ∨ k = 4 then w * t / 2 else if k = 3 then w * t + 7 else w * t
def acr (gi : Int) : Int := 2 * (113 * gi / 710)
def sagK (c gi : Int) : Int := if acr gi < c then -5 else (acr gi - rt (acr gi * acr gi - c * c)) / 2
abbrev okS (k w t b : Int) : Prop := (0 ≤ k ∧ k ≤ 4) ∧ (1 ≤ w ∧ w ≤ 99) ∧ (1 ≤ t ∧ t ≤ 9) ∧ (-9 ≤ b ∧ b ≤ 9)
abbrev okH (k s d : Int) : Prop := (0 ≤ k ∧ k ≤ 3) ∧ (1 ≤ s ∧ s ≤ 600) ∧ (0 ≤ d ∧ d ≤ 1)
abbrev okB (w : Int) : Prop := 1 ≤ w ∧ w ≤ 99
abbrev okR (what v : Int) : Prop := (what = 0 ∧ 10 ≤ v ∧ v ≤ 500) ∨ (what = 1 ∧ 0 ≤ v ∧ v ≤ 50) ∨ (what = 2 ∧ 0 ≤ v ∧ v ≤ 20) ∨ (what = 3 ∧ -20 ≤ v ∧ v ≤ 20)
/-- a row 'now' with its numbers in their bounds -/
def WF (w : Nat → Int) : Prop := (10 ≤ w 0 ∧ w 0 ≤ 500) ∧ (0 ≤ w 1 ∧ w 1 ≤ 50) ∧ (0 ≤ w 2 ∧ w 2 ≤ 20) ∧ (-20 ≤ w 3 ∧ w 3 ≤ 20) ∧ (0 ≤ w 4 ∧ w 4 ≤ 9) ∧ (0 ≤ w 5 ∧ w 5 ≤ 6) ∧ (0 ≤ w 6 ∧ w 6 ≤ 7) ∧
  (∀ i : Nat, (i : Int) < w 4 → okS (w (7 + i)) (w (16 + i)) (w (25 + i)) (w (34 + i))) ∧ (∀ i : Nat, (i : Int) < w 5 → okH (w (52 + i)) (w (58 + i)) (w (64 + i))) ∧ ∀ i : Nat, (i : Int) < w 6 → okB (w (70 + i))
theorem WF.s {w : Nat → Int} (h : WF w) {i : Nat} (hi : (i : Int) < w 4) : okS (w (7 + i)) (w (16 + i)) (w (25 + i)) (w (34 + i)) := h.2.2.2.2.2.2.2.1 i hi
theorem WF.h {w : Nat → Int} (h : WF w) {i : Nat} (hi : (i : Int) < w 5) : okH (w (52 + i)) (w (58 + i)) (w (64 + i)) := h.2.2.2.2.2.2.2.2.1 i hi
theorem WF.b {w : Nat → Int} (h : WF w) {i : Nat} (hi : (i : Int) < w 6) : okB (w (70 + i)) := h.2.2.2.2.2.2.2.2.2 i hi
def cnt (w : Nat → Int) (i : Nat) : Int := cntK (w (7 + i)) (w (16 + i))
def edg (w : Nat → Int) (i : Nat) : Int := edgeK (w (7 + i)) (w (34 + i))
def pri (w : Nat → Int) (i : Nat) : Int := priceK (w (7 + i)) (w (16 + i)) (w (25 + i))
theorem cntK_b {k w : Int} (h : 1 ≤ w ∧ w ≤ 99) : 1 ≤ cntK k w ∧ cntK k w ≤ 101 := by
  unfold cntK
  split
  · omega
  split
  · omega
  split <;> omega
theorem edgeK_b {k b : Int} (h : -9 ≤ b ∧ b ≤ 9) : -11 ≤ edgeK k b ∧ edgeK k b ≤ 10 := by
  unfold edgeK
  split
  · omega
  split <;> omega
theorem mul_bd {a b A B : Int} (ha : 0 ≤ a ∧ a ≤ A) (hb : 0 ≤ b ∧ b ≤ B) : 0 ≤ a * b ∧ a * b ≤ A * B := by
  have x := Int.mul_le_mul ha.2 hb.2 hb.1 (by omega : 0 ≤ A)
  have y := Int.mul_nonneg ha.1 hb.1
  exact ⟨y, x⟩
theorem priceK_b {k w t : Int} (h : 1 ≤ w ∧ w ≤ 99) (h2 : 1 ≤ t ∧ t ≤ 9) : 0 ≤ priceK k w t ∧ priceK k w t ≤ 898 := by
  have m := mul_bd (a := w) (b := t) (A := 99) (B := 9) (by omega) (by omega)
  unfold priceK
  split
  · omega
  split <;> omega
theorem acr_b {gi : Int} (h : 10 ≤ gi ∧ gi ≤ 500) : 2 ≤ acr gi ∧ acr gi ≤ 158 := by
  unfold acr
  omega
theorem c_sagOf (g : Gl) (σ : St) (c gi : Int) (h0 : 1 ≤ c ∧ c ≤ 101) (h1 : 10 ≤ gi ∧ gi ≤ 500) : Ct g mX11_sagOf 1 0 0 [vi c, vi gi] σ (rP (vi (sagK c gi)) σ) := by
  refine Ct.of (by decide +kernel) (Nat.le_of_ble_eq_true rfl) ?_
  have hA := acr_b h1
  unfold sagK
  generalize hq : acr gi = A at hA ⊢
  unfold acr at hq
  have m1 := sq_bd (a := A) (by omega) (by omega)
  have m2 := mul_bd (a := A) (b := A) (A := 158) (B := 158) (by omega) (by omega)
  have m3 := sq_bd (a := c) (by omega) (by omega)
  refine V_iconst dX11_sagOf_0 ?_
  refine V_bipush dX11_sagOf_1 (by decide) ?_
  refine V_iload_n dX11_sagOf_3 rfl ?_
  refine V_imul dX11_sagOf_4 ?_
  refine V_sipush dX11_sagOf_5 (by decide) ?_
  refine V_idiv dX11_sagOf_8 (by omega) ?_
  refine V_imul dX11_sagOf_9 ?_
  refine V_val hq ?_
  refine V_istore_n dX11_sagOf_10 (by decide) rfl ?_
  refine V_iload_n dX11_sagOf_11 rfl ?_
  refine V_iload_n dX11_sagOf_12 rfl ?_
  refine V_icmple (tgt := 19) dX11_sagOf_13 (by decide) (by omega) (by omega) (fun br13 => ?_) (fun br13 => ?_)
  · refine V_iload_n dX11_sagOf_19 rfl ?_
    refine V_iload_n dX11_sagOf_20 rfl ?_
    refine V_iload_n dX11_sagOf_21 rfl ?_
    refine V_imul dX11_sagOf_22 ?_
    refine V_iload_n dX11_sagOf_23 rfl ?_
    refine V_iload_n dX11_sagOf_24 rfl ?_
    refine V_imul dX11_sagOf_25 ?_
    refine V_isub dX11_sagOf_26 ?_
    refine V_callS dX11_sagOf_27 (c_rootOf g _ _ (by have := Int.mul_le_mul br13 br13 (by omega) (by omega : (0 : Int) ≤ A); omega) (by omega)) ss_RX11_384 rfl ⟨⟨by decide, by decide⟩, ⟨by decide, by decide⟩⟩ (Nat.le_of_ble_eq_true rfl) (fun r27 s27 p27 => ?_)
    obtain ⟨rfl, rfl⟩ := p27
    have m4 : 0 ≤ A * A - c * c := by have := Int.mul_le_mul br13 br13 (by omega) (by omega : (0 : Int) ≤ A); omega
    have m5 := rt_0 (A * A - c * c)
    have m6 : rt (A * A - c * c) < A + 1 := by
      have k1 := rt_le m4
      have k2 : (A + 1) * (A + 1) = A * A + 2 * A + 1 := by rw [Int.add_mul, Int.mul_add]; omega
      exact sq_lt m5 (by omega) (by omega)
    refine V_isub dX11_sagOf_30 ?_
    refine V_iconst dX11_sagOf_31 ?_
    refine V_idiv dX11_sagOf_32 (by omega) ?_
    refine V_iret dX11_sagOf_33 rfl (Nat.le_refl _) (Nat.le_refl _) ?_
    exact rP_i (by rw [if_neg (by omega)]) rfl
  · refine V_bipush dX11_sagOf_16 (by decide) ?_
    refine V_iret dX11_sagOf_18 rfl (Nat.le_refl _) (Nat.le_refl _) ?_
    exact rP_i (by rw [if_pos (by omega)]) rfl