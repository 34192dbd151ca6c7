/-! the cask: girth, where hoops rest, what they press -/
def XW (σ τ : St) : Prop := gl τ = gl σ ∧ gn τ = gn σ ∧ gL τ = gL σ ∧ gP τ = gP σ ∧ (∀ a, a < 25 ∨ 76 < a → gG τ a = gG σ a) ∧ Z0 τ
theorem XW.rf {σ : St} (h : Z0 σ) : XW σ σ := ⟨rfl, rfl, rfl, rfl, fun _ _ => rfl, h⟩
theorem XK.w {σ τ : St} (h : XK σ τ) : XW σ τ := ⟨h.1, h.2.1, h.2.2.1, h.2.2.2.1, fun a ha => h.2.2.2.2.1 a (by omega), h.2.2.2.2.2⟩
theorem XW.onA {σ τ : St} (h : XW σ τ) {c : Nat} {f : Nat → Int} (h1 : 69 ≤ c ∧ c ≤ 76) : XW σ (setA τ c f) := by
  obtain ⟨x1, x2, x3, x4, x5, x6⟩ := h
  refine ⟨x1, x2, x3, x4, fun a ha => ?_, ?_, ?_⟩
  · rw [gG_setA, if_neg (by omega)]; exact x5 a ha
  · rw [gG_setA, if_neg (by omega)]; exact x6.1
  · rw [gG_setA, if_neg (by omega)]; exact x6.2
theorem XW.onG {σ τ : St} (h : XW σ τ) {c k : Nat} {v : Int} (h1 : 69 ≤ c ∧ c ≤ 76) : XW σ (setG τ c k v) := h.onA h1
theorem XW.tr {σ τ υ : St} (h : XW σ τ) (h2 : XW τ υ) : XW σ υ := by
  obtain ⟨x1, x2, x3, x4, x5, x6⟩ := h
  obtain ⟨y1, y2, y3, y4, y5, y6⟩ := h2
  exact ⟨y1.trans x1, y2.trans x2, y3.trans x3, y4.trans x4, fun a ha => (y5 a ha).trans (x5 a ha), y6⟩
theorem XW.std {σ τ : St} (h : XW σ τ) (hS : Std σ) : Std τ := by
  obtain ⟨x1, x2, x3, x4, x5, x6⟩ := h
  exact ⟨by rw [x2]; exact hS.1, by rw [x1]; exact hS.2.1, by rw [x4]; exact hS.2.2⟩
theorem XW.sr {σ τ : St} (h : XW σ τ) {a : Nat} (ha : a < 20) {w : Nat → Int} (hR : SR σ a w) : SR τ a w := by
  obtain ⟨x1, x2, x3, x4, x5, x6⟩ := h
  obtain ⟨y1, y2, y3, y4, y5⟩ := hR
  refine ⟨by rw [x5 _ (by omega)]; exact y1, by rw [x5 _ (by omega)]; exact y2, fun i hi => ?_, fun i hi => ?_, fun i hi => ?_⟩
  · obtain ⟨b, z1, z2, z3, z4⟩ := y3 i hi
    exact ⟨b, by rw [x4]; exact z1, z2, by rw [x1]; exact z3, by rw [x5 _ (by omega)]; exact z4⟩
  · obtain ⟨b, z1, z2, z3, z4⟩ := y4 i hi
    exact ⟨b, by rw [x4]; exact z1, z2, by rw [x1]; exact z3, by rw [x5 _ (by omega)]; exact z4⟩
  · obtain ⟨b, z1, z2, z3, z4⟩ := y5 i hi
    exact ⟨b, by rw [x4]; exact z1, z2, by rw [x1]; exact z3, by rw [x5 _ (by omega)]; exact z4⟩
theorem XW.xs {σ τ : St} (h : XW σ τ) {w : Nat → Int} (hX : XS σ w) : XS τ w := ⟨h.std hX.1, h.sr (by decide) hX.2.1, hX.2.2⟩
def PW (v : Int) (σ : St) : Option MV → St → Prop := fun r σ' => r = some (vi v) ∧ XW σ σ'
theorem PW_i {σ τ : St} {a b : Int} (h : a = b) (h2 : XW σ τ) : PW b σ (some (vi a)) τ := ⟨by rw [h], h2⟩
/-- the girth at a height; a height from a depth; a grip; a press at a height -/
def gir (w : Nat → Int) (h : Int) : Int := max 1 (w 0 - w 2 * iAbs (h - 4))
def hgt (d side : Int) : Int := if side = 0 then d else 8 - d
def grp (w : Nat → Int) (h size : Int) : Int := max 0 (gir w h - size)
def prF (rest pr h : Int) : Int := max 0 (pr - 2 * iAbs (h - rest))
theorem gir_m {w : Nat → Int} (hW : WF w) {h : Int} (hh : 0 ≤ h ∧ h ≤ 8) : (0 ≤ w 2 * iAbs (h - 4) ∧ w 2 * iAbs (h - 4) ≤ 80) ∧ (0 ≤ iAbs (h - 4) ∧ iAbs (h - 4) ≤ 4) := by
  have a := iAbs_b (x := h - 4) (B := 4) (by omega)
  have m := mul_bd (a := w 2) (b := iAbs (h - 4)) (A := 20) (B := 4) hW.2.2.1 a
  exact ⟨by omega, a⟩
theorem gir_b {w : Nat → Int} (hW : WF w) {h : Int} (hh : 0 ≤ h ∧ h ≤ 8) : 1 ≤ gir w h ∧ gir w h ≤ 500 := by
  have m := gir_m hW hh
  have := hW.1
  unfold gir
  omega
theorem grp_b {w : Nat → Int} (hW : WF w) {h size : Int} (hh : 0 ≤ h ∧ h ≤ 8) (hs : 0 ≤ size) : 0 ≤ grp w h size ∧ grp w h size ≤ 500 := by
  have := gir_b hW hh
  unfold grp
  omega
theorem prF_b {r p h : Int} (hr : 0 ≤ r ∧ r ≤ 8) (hh : 0 ≤ h ∧ h ≤ 8) (hp : 0 ≤ p) : 0 ≤ prF r p h ∧ prF r p h ≤ p := by
  have := iAbs_b (x := h - r) (B := 8) (by omega)
  unfold prF
  omega
theorem hgt_b {d s : Int} (hd : 0 ≤ d ∧ d ≤ 4) : 0 ≤ hgt d s ∧ hgt d s ≤ 8 := by
  unfold hgt
  split <;> omega
theorem pressK_b {k g : Int} (hg : 0 ≤ g ∧ g ≤ 500) : 0 ≤ pressK k g ∧ pressK k g ≤ 1003 := by
  unfold pressK
  (repeat' split) <;> omega
theorem c_girthAt (g : Gl) (σ : St) (w : Nat → Int) (hX : XS σ w) (h : Int) (hh : 0 ≤ h ∧ h ≤ 8) : Ct g mX1_girthAt 1 0 0 [vq (some 9), vi h] σ (rP (vi (gir w h)) σ) := by
  refine Ct.of (by decide +kernel) (Nat.le_of_ble_eq_true rfl) ?_
  have hS := hX.1
  have m := gir_m hX.2.2 hh
  have r0 := hX.r0
  have r2 := hX.r2
  refine V_iconst dX1_girthAt_0 ?_
  refine V_aload_n dX1_girthAt_1 rfl ?_
  refine V_getfr dX1_girthAt_2 sf_RX1_18 (by decide) (sh hS rfl) (rf hS rfl) ?_
  refine V_iconst dX1_girthAt_5 ?_
  refine V_iald dX1_girthAt_6 (sh hS rfl) (by omega) ?_
  refine V_val (show _ = w 0 from r0.1) ?_
  refine V_aload_n dX1_girthAt_7 rfl ?_
  refine V_getfr dX1_girthAt_8 sf_RX1_18 (by decide) (sh hS rfl) (rf hS rfl) ?_
  refine V_iconst dX1_girthAt_11 ?_
  refine V_iald dX1_girthAt_12 (sh hS rfl) (by omega) ?_
  refine V_val (show _ = w 2 from r2.1) ?_
  refine V_iload_n dX1_girthAt_13 rfl ?_
  refine V_iconst dX1_girthAt_14 ?_
  refine V_isub dX1_girthAt_15 ?_
  refine V_abs dX1_girthAt_16 sm_RX1_23 (by decide) (by decide) (Nat.le_of_ble_eq_true rfl) (by omega) ?_
  refine V_imul dX1_girthAt_19 ?_
  refine V_isub dX1_girthAt_20 ?_
  refine V_max dX1_girthAt_21 sm_RX1_29 (by decide) (by decide) (Nat.le_of_ble_eq_true rfl) (by omega) (by omega) ?_
  refine V_iret dX1_girthAt_24 rfl (Nat.le_refl _) (Nat.le_refl _) ?_
  exact rP_i rfl rfl
theorem c_heightOf (g : Gl) (σ : St) (d s : Int) (hs : inR s) : Ct g mX1_heightOf 0 0 0 [vi d, vi s] σ (rP (vi (hgt d s)) σ) := by
  refine Ct.of (by decide +kernel) (Nat.le_of_ble_eq_true rfl) ?_
  refine V_iload_n dX1_heightOf_0 rfl ?_
  refine V_ifne (tgt := 8) dX1_heightOf_1 (by decide) (by omega) (fun br1 => ?_) (fun br1 => ?_)
  · refine V_bipush dX1_heightOf_8 (by decide) ?_
    refine V_iload_n dX1_heightOf_10 rfl ?_
    refine V_isub dX1_heightOf_11 ?_
    refine V_iret dX1_heightOf_12 rfl (Nat.le_refl _) (Nat.le_refl _) ?_
    exact rP_i (by unfold hgt; split <;> omega) rfl
  · refine V_iload_n dX1_heightOf_4 rfl ?_
    refine V_goto (tgt := 12) dX1_heightOf_5 (by decide) ?_
    refine V_iret dX1_heightOf_12 rfl (Nat.le_refl _) (Nat.le_refl _) ?_
    exact rP_i (by unfold hgt; split <;> omega) rfl
theorem c_gripAt (g : Gl) (σ : St) (w : Nat → Int) (hX : XS σ w) (h size : Int) (hh : 0 ≤ h ∧ h ≤ 8) (hz : 0 ≤ size ∧ size ≤ 600) : Ct g mX1_gripAt 2 0 0 [vq (some 9), vi h, vi size] σ (rP (vi (grp w h size)) σ) := by
  refine Ct.of (by decide +kernel) (Nat.le_of_ble_eq_true rfl) ?_
  have hb := gir_b hX.2.2 hh
  refine V_iconst dX1_gripAt_0 ?_
  refine V_aload_n dX1_gripAt_1 rfl ?_
  refine V_iload_n dX1_gripAt_2 rfl ?_
  refine V_callS dX1_gripAt_3 (c_girthAt g _ w hX h hh) ss_RX1_83 rfl ⟨⟨by decide, by decide⟩, ⟨by decide, by decide⟩⟩ (Nat.le_of_ble_eq_true rfl) (fun r3 s3 p3 => ?_)
  obtain ⟨rfl, rfl⟩ := p3
  refine V_iload_n dX1_gripAt_6 rfl ?_
  refine V_isub dX1_gripAt_7 ?_
  refine V_max dX1_gripAt_8 sm_RX1_29 (by decide) (by decide) (Nat.le_of_ble_eq_true rfl) (by omega) (by omega) ?_
  refine V_iret dX1_gripAt_11 rfl (Nat.le_refl _) (Nat.le_refl _) ?_
  exact rP_i rfl rfl
theorem c_pressFrom (g : Gl) (σ : St) (r p h : Int) (hr : 0 ≤ r ∧ r ≤ 8) (hh : 0 ≤ h ∧ h ≤ 8) (hp : 0 ≤ p ∧ p ≤ 1003) : Ct g mX1_pressFrom 1 0 0 [vi r, vi p, vi h] σ (rP (vi (prF r p h)) σ) := by
  refine Ct.of (by decide +kernel) (Nat.le_of_ble_eq_true rfl) ?_
  have hb := iAbs_b (x := h - r) (B := 8) (by omega)
  refine V_iconst dX1_pressFrom_0 ?_
  refine V_iload_n dX1_pressFrom_1 rfl ?_
  refine V_iconst dX1_pressFrom_2 ?_
  refine V_iload_n dX1_pressFrom_3 rfl ?_
  refine V_iload_n dX1_pressFrom_4 rfl ?_
  refine V_isub dX1_pressFrom_5 ?_
  refine V_abs dX1_pressFrom_6 sm_RX1_23 (by decide) (by decide) (Nat.le_of_ble_eq_true rfl) (by omega) ?_
  refine V_imul dX1_pressFrom_9 ?_
  refine V_isub dX1_pressFrom_10 ?_
  refine V_max dX1_pressFrom_11 sm_RX1_29 (by decide) (by decide) (Nat.le_of_ble_eq_true rfl) (by omega) (by omega) ?_
  refine V_iret dX1_pressFrom_14 rfl (Nat.le_refl _) (Nat.le_refl _) ?_
  exact rP_i rfl rfl
theorem c_capped (g : Gl) (σ : St) (p : Int) (hp : inR p) : Ct g mX1_capped 1 0 0 [vi p] σ (rP (vi (min p 99)) σ) := by
  refine Ct.of (by decide +kernel) (Nat.le_of_ble_eq_true rfl) ?_
  refine V_iload_n dX1_capped_0 rfl ?_
  refine V_bipush dX1_capped_1 (by decide) ?_
  refine V_min dX1_capped_3 sm_RX1_80 (by decide) (by decide) (Nat.le_of_ble_eq_true rfl) (by omega) (by omega) ?_
  refine V_iret dX1_capped_6 rfl (Nat.le_refl _) (Nat.le_refl _) ?_
  exact rP_i rfl rfl
/-- how far a hoop on a side can be driven, the depths d of the n ahead of it being known; where it rests -/
def far (w : Nat → Int) (side : Int) (d : Nat → Int) : Nat → Int
  | 0 => 5
  | n + 1 => if w (64 + n) = side ∧ d n ≠ -5 then min (far w side d n) (d n) else far w side d n
def rstF (w : Nat → Int) (size f : Int) : Nat → Int → Int
  | 0, _ => -5
  | m + 1, k => if k = f ∨ size ≤ gir w k then k else rstF w size f m (k + 1)
def rst (w : Nat → Int) (size f : Int) : Int := rstF w size f 5 0
theorem far_t {w : Nat → Int} {side : Int} {d : Nat → Int} {n : Nat} (h : w (64 + n) = side) (h2 : d n ≠ -5) : far w side d (n + 1) = min (far w side d n) (d n) := if_pos ⟨h, h2⟩
theorem far_f {w : Nat → Int} {side : Int} {d : Nat → Int} {n : Nat} (h : ¬ (w (64 + n) = side ∧ d n ≠ -5)) : far w side d (n + 1) = far w side d n := if_neg h
theorem far_b {w : Nat → Int} {side : Int} {d : Nat → Int} : ∀ n : Nat, (∀ j, j < n → d j = -5 ∨ (0 ≤ d j ∧ d j ≤ 4)) → 0 ≤ far w side d n ∧ far w side d n ≤ 5
  | 0, _ => ⟨(by decide : (0 : Int) ≤ 5), (by decide : (5 : Int) ≤ 5)⟩
  | n + 1, h => by
    have a := far_b (w := w) (side := side) n (fun j hj => h j (by omega))
    have b := h n (by omega)
    unfold far
    split <;> omega
theorem far_cong {w : Nat → Int} {side : Int} {d e : Nat → Int} : ∀ n : Nat, (∀ j, j < n → d j = e j) → far w side d n = far w side e n
  | 0, _ => rfl
  | n + 1, h => by
    unfold far
    rw [far_cong n (fun j hj => h j (by omega)), h n (by omega)]
theorem rstF_b {w : Nat → Int} {size f : Int} : ∀ (m : Nat) (k : Int), 0 ≤ k → k + m = 5 → rstF w size f m k = -5 ∨ (0 ≤ rstF w size f m k ∧ rstF w size f m k ≤ 4)
  | 0, _, _, _ => Or.inl rfl
  | m + 1, k, h, h2 => by
    have a := rstF_b (w := w) (size := size) (f := f) m (k + 1) (by omega) (by omega)
    unfold rstF
    split
    · omega
    · exact a
theorem rst_b (w : Nat → Int) (size f : Int) : rst w size f = -5 ∨ (0 ≤ rst w size f ∧ rst w size f ≤ 4) := rstF_b 5 0 (by decide) (by decide)
theorem c_restDepth (g : Gl) (σ : St) (w : Nat → Int) (hX : XS σ w) (n : Nat) (hn : (n : Int) ≤ w 5) (size side : Int) (hz : inR size) (hs : inR side) (d : Nat → Int) (hd : ∀ j, j < n → gG σ 70 j = d j ∧ (d j = -5 ∨ (0 ≤ d j ∧ d j ≤ 4))) : Ct g mX1_restDepth 2 0 0 [vq (some 69), vq (some 9), vi size, vi side, vi (n : Int)] σ (rP (vi (rst w size (far w side d n))) σ) := by
  refine Ct.of (by decide +kernel) (Nat.le_of_ble_eq_true rfl) ?_
  have hS := hX.1
  have n5 := hX.n5
  have fb : ∀ i, i ≤ n → 0 ≤ far w side d i ∧ far w side d i ≤ 5 := fun i hi => far_b i (fun j hj => (hd j (by omega)).2)
  have hF := fb n (Nat.le_refl _)
  have tail : ∀ (m : Nat) (k : Int), 0 ≤ k → k + m = 5 → V g mX1_restDepth (rmD 2 0 0) (QM g 0 0 (rP (vi (rstF w size (far w side d n) m k)) σ)) 70 [none, some (vq (some 9)), some (vi size), none, none, some (vi (far w side d n)), some (vi k), none] [] 0 0 σ := by
    intro m
    induction m with
    | zero =>
      intro k h1 h2
      refine V_iload dX1_restDepth_70 rfl ?_
      refine V_iconst dX1_restDepth_72 ?_
      refine V_icmpgt (tgt := 102) dX1_restDepth_73 (by decide) (by omega) (by omega) (fun br73 => ?_) (fun br73 => ?_)
      · refine V_bipush dX1_restDepth_102 (by decide) ?_
        refine V_iret dX1_restDepth_104 rfl (Nat.le_refl _) (Nat.le_refl _) ?_
        exact rP_i rfl rfl
      · omega
    | succ m ih =>
      intro k h1 h2
      have gb := gir_b hX.2.2 (h := k) (by omega)
      refine V_iload dX1_restDepth_70 rfl ?_
      refine V_iconst dX1_restDepth_72 ?_
      refine V_icmpgt (tgt := 102) dX1_restDepth_73 (by decide) (by omega) (by omega) (fun br73 => ?_) (fun br73 => ?_)
      · omega
      · refine V_iload dX1_restDepth_76 rfl ?_
        refine V_iload dX1_restDepth_78 rfl ?_
        refine V_icmpeq (tgt := 93) dX1_restDepth_80 (by decide) (by omega) (by omega) (fun br80 => ?_) (fun br80 => ?_)
        · refine V_iload dX1_restDepth_93 rfl ?_
          refine V_iret dX1_restDepth_95 rfl (Nat.le_refl _) (Nat.le_refl _) ?_
          exact rP_i (if_pos (by omega)).symm rfl
        · refine V_aload_n dX1_restDepth_83 rfl ?_
          refine V_iload dX1_restDepth_84 rfl ?_
          refine V_callS dX1_restDepth_86 (c_girthAt g _ w hX k (by omega)) ss_RX1_83 rfl ⟨⟨by decide, by decide⟩, ⟨by decide, by decide⟩⟩ (Nat.le_of_ble_eq_true rfl) (fun r86 s86 p86 => ?_)
          obtain ⟨rfl, rfl⟩ := p86
          refine V_iload_n dX1_restDepth_89 rfl ?_
          refine V_icmplt (tgt := 96) dX1_restDepth_90 (by decide) (by omega) (by omega) (fun br90 => ?_) (fun br90 => ?_)
          · refine V_iinc dX1_restDepth_96 rfl (by decide) rfl ?_
            refine V_goto (tgt := 70) dX1_restDepth_99 (by decide) ?_
            refine V_mask [false, true, true, false, false, true, true, false] ?_
            have e : rstF w size (far w side d n) (m + 1) k = rstF w size (far w side d n) m (k + 1) := if_neg (by omega)
            rw [e]
            exact ih (k + 1) (by omega) (by omega)
          · refine V_iload dX1_restDepth_93 rfl ?_
            refine V_iret dX1_restDepth_95 rfl (Nat.le_refl _) (Nat.le_refl _) ?_
            exact rP_i (if_pos (by omega)).symm rfl
  have loop : ∀ (m i : Nat), n - i < m → i ≤ n → V g mX1_restDepth (rmD 2 0 0) (QM g 0 0 (rP (vi (rst w size (far w side d n))) σ)) 6 [some (vq (some 69)), some (vq (some 9)), some (vi size), some (vi side), some (vi (n : Int)), some (vi (far w side d i)), some (vi (i : Int)), none] [] 0 0 σ := by
    intro m
    induction m with
    | zero => intro i hm; omega
    | succ m ih =>
      intro i hm hi
      have fi := fb i hi
      refine V_iload dX1_restDepth_6 rfl ?_
      refine V_iload dX1_restDepth_8 rfl ?_
      refine V_icmpge (tgt := 67) dX1_restDepth_10 (by decide) (by omega) (by omega) (fun br10 => ?_) (fun br10 => ?_)
      · have e : i = n := by omega
        subst e
        refine V_iconst dX1_restDepth_67 ?_
        refine V_istore dX1_restDepth_68 (by decide) rfl ?_
        refine V_mask [false, true, true, false, false, true, true, false] ?_
        exact tail 5 0 (Int.le_refl _) rfl
      · obtain ⟨b, hb, hb93, hbl, hbg, hbk⟩ := hX.h (i := (i : Int)) (by omega) (by omega)
        have hdi := hd i (by omega)
        have e3 : gG σ b 2 = w (64 + i) := by have := hbg.2.2; rwa [Int.toNat_natCast] at this
        have hs2 : 0 ≤ w (64 + i) ∧ w (64 + i) ≤ 1 := by have := hbk.2.2; rwa [Int.toNat_natCast] at this
        refine V_aload_n dX1_restDepth_13 rfl ?_
        refine V_iload dX1_restDepth_14 rfl ?_
        refine V_callV dX1_restDepth_16 (c_hAt hX (by omega) (by omega) hb) sv_RX1_43 (sh hS rfl) rfl ⟨⟨by decide, by decide⟩, ⟨by decide, by decide⟩⟩ (Nat.le_of_ble_eq_true rfl) (fun r16 s16 p16 => ?_)
        obtain ⟨rfl, rfl⟩ := p16
        refine V_astore dX1_restDepth_19 (by decide) rfl ?_
        refine V_aload dX1_restDepth_21 rfl ?_
        refine V_ifnull (tgt := 61) dX1_restDepth_23 (by decide) (fun br23 => ?_) (fun a23 br23 => ?_)
        · cases br23
        · cases br23
          refine V_aload dX1_restDepth_26 rfl ?_
          refine V_getfi dX1_restDepth_28 sf_RX1_52 rfl hbl ?_
          refine V_val e3 ?_
          refine V_iload_n dX1_restDepth_31 rfl ?_
          refine V_icmpne (tgt := 61) dX1_restDepth_32 (by decide) (by omega) (by omega) (fun br32 => ?_) (fun br32 => ?_)
          · refine V_iinc dX1_restDepth_61 rfl (by decide) rfl ?_
            refine V_goto (tgt := 6) dX1_restDepth_64 (by decide) ?_
            refine V_mask [true, true, true, true, true, true, true, false] ?_
            first
              | (rw [← far_t (w := w) (side := side) (d := d) (n := i) (by omega) (by omega)]; exact ih (i + 1) (by omega) (by omega))
              | (rw [← far_f (w := w) (side := side) (d := d) (n := i) (by omega)]; exact ih (i + 1) (by omega) (by omega))
          · refine V_aload_n dX1_restDepth_35 rfl ?_
            refine V_getfr dX1_restDepth_36 sf_RX1_9 (by decide) (sh hS rfl) (rf hS rfl) ?_
            refine V_iload dX1_restDepth_39 rfl ?_
            refine V_iald dX1_restDepth_41 (sh hS rfl) (by omega) ?_
            refine V_val (show _ = d i by rw [Int.toNat_natCast]; exact hdi.1) ?_
            refine V_bipush dX1_restDepth_42 (by decide) ?_
            refine V_icmpeq (tgt := 61) dX1_restDepth_44 (by decide) (by omega) (by omega) (fun br44 => ?_) (fun br44 => ?_)
            · refine V_iinc dX1_restDepth_61 rfl (by decide) rfl ?_
              refine V_goto (tgt := 6) dX1_restDepth_64 (by decide) ?_
              refine V_mask [true, true, true, true, true, true, true, false] ?_
              first
                | (rw [← far_t (w := w) (side := side) (d := d) (n := i) (by omega) (by omega)]; exact ih (i + 1) (by omega) (by omega))
                | (rw [← far_f (w := w) (side := side) (d := d) (n := i) (by omega)]; exact ih (i + 1) (by omega) (by omega))
            · refine V_iload dX1_restDepth_47 rfl ?_
              refine V_aload_n dX1_restDepth_49 rfl ?_
              refine V_getfr dX1_restDepth_50 sf_RX1_9 (by decide) (sh hS rfl) (rf hS rfl) ?_
              refine V_iload dX1_restDepth_53 rfl ?_
              refine V_iald dX1_restDepth_55 (sh hS rfl) (by omega) ?_
              refine V_val (show _ = d i by rw [Int.toNat_natCast]; exact hdi.1) ?_
              refine V_min dX1_restDepth_56 sm_RX1_80 (by decide) (by decide) (Nat.le_of_ble_eq_true rfl) (by omega) (by omega) ?_
              refine V_istore dX1_restDepth_59 (by decide) rfl ?_
              refine V_iinc dX1_restDepth_61 rfl (by decide) rfl ?_
              refine V_goto (tgt := 6) dX1_restDepth_64 (by decide) ?_
              refine V_mask [true, true, true, true, true, true, true, false] ?_
              first
                | (rw [← far_t (w := w) (side := side) (d := d) (n := i) (by omega) (by omega)]; exact ih (i + 1) (by omega) (by omega))
                | (rw [← far_f (w := w) (side := side) (d := d) (n := i) (by omega)]; exact ih (i + 1) (by omega) (by omega))
  refine V_iconst dX1_restDepth_0 ?_
  refine V_istore dX1_restDepth_1 (by decide) rfl ?_
  refine V_iconst dX1_restDepth_3 ?_
  refine V_istore dX1_restDepth_4 (by decide) rfl ?_
  refine V_mask [true, true, true, true, true, true, true, false] ?_
  exact loop _ 0 (Nat.lt_succ_self _) (Nat.zero_le _)