/-! the ring bench of the class -/
def gapW (w : Nat → Int) (a b : Nat) : Int := if a < nS w ∧ b < nS w then iAbs (edg w a + edg w b - w 3) else 0
def cst (w : Nat → Int) (p : Int) (a b : Nat) : Int := max 0 (gapW w a b - p)
theorem gapW_b {w : Nat → Int} (h : WF w) (a b : Nat) : 0 ≤ gapW w a b ∧ gapW w a b ≤ 42 := by
  unfold gapW
  split
  · rename_i q
    have h1 := wf_edg h q.1
    have h2 := wf_edg h q.2
    have h3 := h.2.2.2.1
    exact iAbs_b (by omega)
  · omega
theorem cst_ok {w : Nat → Int} (h : WF w) {p : Int} (hp : 0 ≤ p) : cOK (cst w p) := fun a b => by
  have := gapW_b h a b
  unfold cst
  omega
theorem c_edgeOf (g : Gl) (σ : St) (w : Nat → Int) (hX : XS σ w) (i : Nat) (hi : i < nS w) : Ct g mX4_edgeOf 2 0 0 [vq (some 9), vi (i : Int)] σ (rP (vi (edg w i)) σ) := by
  refine Ct.of (by decide +kernel) (Nat.le_of_ble_eq_true rfl) ?_
  have hS := hX.1
  have hN := wf_n hX.2.2
  obtain ⟨b, y1, y2, y3, ⟨y4, y5, y6, y7⟩, y8⟩ := hX.s (i := (i : Int)) (by omega) (by omega)
  refine V_aload_n dX4_edgeOf_0 rfl ?_
  refine V_iload_n dX4_edgeOf_1 rfl ?_
  refine V_callV dX4_edgeOf_2 (c_sAt hX (by omega) (by omega) y1) sv_RX4_92 (sh hS rfl) rfl ⟨⟨by decide, by decide⟩, ⟨by decide, by decide⟩⟩ (Nat.le_of_ble_eq_true rfl) (fun r2 s2 p2 => ?_)
  obtain ⟨rfl, rfl⟩ := p2
  refine V_astore_n dX4_edgeOf_5 (by decide) rfl ?_
  refine V_aload_n dX4_edgeOf_6 rfl ?_
  refine V_ifnonnull (tgt := 14) dX4_edgeOf_7 (by decide) (fun a7 br7 => ?_) (fun br7 => ?_)
  · cases br7
    refine V_aload_n dX4_edgeOf_14 rfl ?_
    refine V_callV dX4_edgeOf_15 (c_edge g _ b y3 (by omega)) sv_RX4_96 y3 rfl ⟨⟨by decide, by decide⟩, ⟨by decide, by decide⟩⟩ (Nat.le_of_ble_eq_true rfl) (fun r15 s15 p15 => ?_)
    obtain ⟨rfl, rfl⟩ := p15
    refine V_iret dX4_edgeOf_18 rfl (Nat.le_refl _) (Nat.le_refl _) ?_
    exact rP_i (by rw [y4, y7, Int.toNat_natCast]; rfl) rfl
  · cases br7
theorem c_gapOf (g : Gl) (σ : St) (w : Nat → Int) (hX : XS σ w) (a b : Nat) (ha : a < nS w) (hb : b < nS w) : Ct g mX4_gapOf 3 0 0 [vq (some 9), vi (a : Int), vi (b : Int)] σ (rP (vi (gapW w a b)) σ) := by
  refine Ct.of (by decide +kernel) (Nat.le_of_ble_eq_true rfl) ?_
  have hS := hX.1
  have h3 := hX.r3
  have e1 := wf_edg hX.2.2 ha
  have e2 := wf_edg hX.2.2 hb
  refine V_aload_n dX4_gapOf_0 rfl ?_
  refine V_iload_n dX4_gapOf_1 rfl ?_
  refine V_callS dX4_gapOf_2 (c_edgeOf g _ w hX a ha) ss_RX4_82 rfl ⟨⟨by decide, by decide⟩, ⟨by decide, by decide⟩⟩ (Nat.le_of_ble_eq_true rfl) (fun r2 s2 p2 => ?_)
  obtain ⟨rfl, rfl⟩ := p2
  refine V_aload_n dX4_gapOf_5 rfl ?_
  refine V_iload_n dX4_gapOf_6 rfl ?_
  refine V_callS dX4_gapOf_7 (c_edgeOf g _ w hX b hb) ss_RX4_82 rfl ⟨⟨by decide, by decide⟩, ⟨by decide, by decide⟩⟩ (Nat.le_of_ble_eq_true rfl) (fun r7 s7 p7 => ?_)
  obtain ⟨rfl, rfl⟩ := p7
  refine V_iadd dX4_gapOf_10 ?_
  refine V_aload_n dX4_gapOf_11 rfl ?_
  refine V_getfr dX4_gapOf_12 sf_RX4_86 (by decide) (sh hS rfl) (rf hS rfl) ?_
  refine V_iconst dX4_gapOf_15 ?_
  refine V_iald dX4_gapOf_16 (sh hS rfl) (by omega) ?_
  refine V_val h3.1 ?_
  refine V_isub dX4_gapOf_17 ?_
  refine V_abs dX4_gapOf_18 sm_RX4_89 (by decide) (by decide) (Nat.le_of_ble_eq_true rfl) (by omega) ?_
  refine V_iret dX4_gapOf_21 rfl (Nat.le_refl _) (Nat.le_refl _) ?_
  exact rP_i (by unfold gapW; rw [if_pos ⟨ha, hb⟩]) rfl
theorem c_allButFirst (g : Gl) (τ : St) (hS : Std τ) (sz : Nat) (hz : gG τ 55 5 = (sz : Int)) (h8 : sz ≤ 8) : Ct g mX4_allButFirst 0 0 0 [vq (some 55)] τ (rP (vi ((2 ^ sz : Nat) - 2 : Int)) τ) := by
  refine Ct.of (by decide +kernel) (Nat.le_of_ble_eq_true rfl) ?_
  refine V_iconst dX4_allButFirst_0 ?_
  refine V_aload_n dX4_allButFirst_1 rfl ?_
  refine V_getfi dX4_allButFirst_2 sf_RX4_39 rfl (sh hS rfl) ?_
  refine V_val hz ?_
  refine V_ishl dX4_allButFirst_5 (by omega) ?_
  refine V_iconst dX4_allButFirst_6 ?_
  refine V_isub dX4_allButFirst_7 ?_
  refine V_iret dX4_allButFirst_8 rfl (Nat.le_refl _) (Nat.le_refl _) ?_
  exact rP_i (by rw [Int.toNat_natCast, Int.one_mul, Int.natCast_pow]; rfl) rfl
theorem c_cellOf (g : Gl) (τ : St) (M x : Nat) (hM : M < 512) (hx : x < 8) : Ct g mX4_cellOf 0 0 0 [vi (M : Int), vi (x : Int)] τ (rP (vi ((M / 2 * 8 + x : Nat) : Int)) τ) := by
  refine Ct.of (by decide +kernel) (Nat.le_of_ble_eq_true rfl) ?_
  refine V_iload_n dX4_cellOf_0 rfl ?_
  refine V_iconst dX4_cellOf_1 ?_
  refine V_ishr dX4_cellOf_2 (by omega) ?_
  refine V_bipush dX4_cellOf_3 (by decide) ?_
  refine V_imul dX4_cellOf_5 ?_
  refine V_iload_n dX4_cellOf_6 rfl ?_
  refine V_iadd dX4_cellOf_7 ?_
  refine V_iret dX4_cellOf_8 rfl (Nat.le_refl _) (Nat.le_refl _) ?_
  exact rP_i (by show (M : Int) / 2 ^ 1 * 8 + x = _; omega) rfl
def sumN (h : Nat → Int) : Nat → Int
  | 0 => 0
  | n + 1 => sumN h n + h n
theorem sumN_b {h : Nat → Int} {B : Int} (hB : 0 ≤ B) : ∀ n : Nat, (∀ j, j < n → 0 ≤ h j ∧ h j ≤ B) → 0 ≤ sumN h n ∧ sumN h n ≤ n * B
  | 0, _ => by simp [sumN]
  | n + 1, q => by
    have ih := sumN_b hB n (fun j hj => q j (by omega))
    have hn := q n (by omega)
    have e : ((n + 1 : Nat) : Int) * B = n * B + B := by rw [Int.natCast_add, Int.add_mul]; simp
    rw [e]
    show 0 ≤ sumN h n + h n ∧ sumN h n + h n ≤ _
    omega
theorem c_leakUnder (g : Gl) (τ : St) (hS : Std τ) (sz : Nat) (hz : gG τ 55 5 = (sz : Int)) (h8 : sz ≤ 8) (p : Int) (hp : 0 ≤ p ∧ p ≤ 99) (hg : ∀ j, j < sz → 0 ≤ gG τ 58 j ∧ gG τ 58 j ≤ 99) : Ct g mX4_leakUnder 1 0 0 [vq (some 55), vi p] τ (rP (vi (sumN (fun j => max 0 (gG τ 58 j - p)) sz)) τ) := by
  refine Ct.of (by decide +kernel) (Nat.le_of_ble_eq_true rfl) ?_
  have loop : ∀ (m j : Nat), sz - j < m → j ≤ sz → V g mX4_leakUnder (rmD 1 0 0) (QM g 0 0 (rP (vi (sumN (fun j => max 0 (gG τ 58 j - p)) sz)) τ)) 4 [some (vq (some 55)), some (vi p), some (vi (sumN (fun j => max 0 (gG τ 58 j - p)) j)), some (vi (j : Int))] [] 0 0 τ := by
    intro m
    induction m with
    | zero => intro j hm; omega
    | succ m ih =>
      intro j hm hj
      refine V_iload_n dX4_leakUnder_4 rfl ?_
      refine V_aload_n dX4_leakUnder_5 rfl ?_
      refine V_getfi dX4_leakUnder_6 sf_RX4_39 rfl (sh hS rfl) ?_
      refine V_icmpge (tgt := 33) dX4_leakUnder_9 (by decide) (by omega) (by omega) (fun br9 => ?_) (fun br9 => ?_)
      · have : j = sz := by omega
        subst this
        refine V_iload_n dX4_leakUnder_33 rfl ?_
        refine V_iret dX4_leakUnder_34 rfl (Nat.le_refl _) (Nat.le_refl _) ?_
        exact ⟨rfl, rfl⟩
      · have hgj := hg j (by omega)
        refine V_iload_n dX4_leakUnder_12 rfl ?_
        refine V_iconst dX4_leakUnder_13 ?_
        refine V_aload_n dX4_leakUnder_14 rfl ?_
        refine V_getfr dX4_leakUnder_15 sf_RX4_18 (by decide) (sh hS rfl) (rf hS rfl) ?_
        refine V_iload_n dX4_leakUnder_18 rfl ?_
        refine V_iald dX4_leakUnder_19 (sh hS rfl) (by omega) ?_
        rw [Int.toNat_natCast]
        refine V_iload_n dX4_leakUnder_20 rfl ?_
        refine V_isub dX4_leakUnder_21 ?_
        refine V_max dX4_leakUnder_22 sm_RX4_62 (by decide) (by decide) (Nat.le_of_ble_eq_true rfl) (by omega) (by omega) ?_
        refine V_iadd dX4_leakUnder_25 ?_
        refine V_istore_n dX4_leakUnder_26 (by decide) rfl ?_
        refine V_iinc dX4_leakUnder_27 rfl (by decide) rfl ?_
        refine V_goto (tgt := 4) dX4_leakUnder_30 (by decide) ?_
        refine V_mask [true, true, true, true] ?_
        exact ih (j + 1) (by omega) (by omega)
  refine V_iconst dX4_leakUnder_0 ?_
  refine V_istore_n dX4_leakUnder_1 (by decide) rfl ?_
  refine V_iconst dX4_leakUnder_2 ?_
  refine V_istore_n dX4_leakUnder_3 (by decide) rfl ?_
  refine V_mask [true, true, true, true] ?_
  exact loop _ 0 (Nat.lt_succ_self _) (Nat.zero_le _)
def digF (h : Nat → Nat) : Nat → Int
  | 0 => 0
  | n + 1 => digF h n * 10 + (h n : Int) + 1
theorem c_digits (g : Gl) (τ : St) (hS : Std τ) (sz : Nat) (hz : gG τ 55 5 = (sz : Int)) (h8 : sz ≤ 8) (o : Nat → Nat) (hg : ∀ j, j < sz → gG τ 57 j = (o j : Int)) : Ct g mX4_digits 0 0 0 [vq (some 55)] τ (rP (vi (digF o sz)) τ) := by
  refine Ct.of (by decide +kernel) (Nat.le_of_ble_eq_true rfl) ?_
  have loop : ∀ (m j : Nat), sz - j < m → j ≤ sz → V g mX4_digits (rmD 0 0 0) (QM g 0 0 (rP (vi (digF o sz)) τ)) 4 [some (vq (some 55)), some (vi (digF o j)), some (vi (j : Int))] [] 0 0 τ := by
    intro m
    induction m with
    | zero => intro j hm; omega
    | succ m ih =>
      intro j hm hj
      refine V_iload_n dX4_digits_4 rfl ?_
      refine V_aload_n dX4_digits_5 rfl ?_
      refine V_getfi dX4_digits_6 sf_RX4_39 rfl (sh hS rfl) ?_
      refine V_icmpge (tgt := 32) dX4_digits_9 (by decide) (by omega) (by omega) (fun br9 => ?_) (fun br9 => ?_)
      · have : j = sz := by omega
        subst this
        refine V_iload_n dX4_digits_32 rfl ?_
        refine V_iret dX4_digits_33 rfl (Nat.le_refl _) (Nat.le_refl _) ?_
        exact ⟨rfl, rfl⟩
      · have hgj := hg j (by omega)
        refine V_iload_n dX4_digits_12 rfl ?_
        refine V_bipush dX4_digits_13 (by decide) ?_
        refine V_imul dX4_digits_15 ?_
        refine V_aload_n dX4_digits_16 rfl ?_
        refine V_getfr dX4_digits_17 sf_RX4_15 (by decide) (sh hS rfl) (rf hS rfl) ?_
        refine V_iload_n dX4_digits_20 rfl ?_
        refine V_iald dX4_digits_21 (sh hS rfl) (by omega) ?_
        rw [Int.toNat_natCast, hgj]
        refine V_iadd dX4_digits_22 ?_
        refine V_iconst dX4_digits_23 ?_
        refine V_iadd dX4_digits_24 ?_
        refine V_istore_n dX4_digits_25 (by decide) rfl ?_
        refine V_iinc dX4_digits_26 rfl (by decide) rfl ?_
        refine V_goto (tgt := 4) dX4_digits_29 (by decide) ?_
        refine V_mask [true, true, true] ?_
        exact ih (j + 1) (by omega) (by omega)
  refine V_iconst dX4_digits_0 ?_
  refine V_istore_n dX4_digits_1 (by decide) rfl ?_
  refine V_iconst dX4_digits_2 ?_
  refine V_istore_n dX4_digits_3 (by decide) rfl ?_
  refine V_mask [true, true, true] ?_
  exact loop _ 0 (Nat.lt_succ_self _) (Nat.zero_le _)
/-- how many places stand ahead of place j by their gaps -/
def rnk (h : Nat → Int) (j : Nat) : Nat → Int
  | 0 => 0
  | n + 1 => rnk h j n + (if h j < h n ∨ (h n = h j ∧ n < j) then 1 else 0)
theorem rnk_b (h : Nat → Int) (j : Nat) : ∀ n : Nat, 0 ≤ rnk h j n ∧ rnk h j n ≤ n
  | 0 => ⟨Int.le_refl _, Int.le_refl _⟩
  | n + 1 => by
    have := rnk_b h j n
    unfold rnk
    split <;> omega
theorem rnk_t {h : Nat → Int} {j n : Nat} (q : h j < h n ∨ (h n = h j ∧ n < j)) : rnk h j (n + 1) = rnk h j n + 1 := by
  show rnk h j n + _ = _
  rw [if_pos q]
theorem rnk_f {h : Nat → Int} {j n : Nat} (q : ¬ (h j < h n ∨ (h n = h j ∧ n < j))) : rnk h j (n + 1) = rnk h j n := by
  show rnk h j n + _ = _
  rw [if_neg q, Int.add_zero]
theorem c_rankOf (g : Gl) (τ : St) (hS : Std τ) (sz : Nat) (hz : gG τ 55 5 = (sz : Int)) (h8 : sz ≤ 8) (hg : ∀ j, j < sz → 0 ≤ gG τ 58 j ∧ gG τ 58 j ≤ 99) (j : Nat) (hj : j < sz) : Ct g mX4_rankOf 0 0 0 [vq (some 55), vi (j : Int)] τ (rP (vi (rnk (gG τ 58) j sz)) τ) := by
  refine Ct.of (by decide +kernel) (Nat.le_of_ble_eq_true rfl) ?_
  have hgj := hg j hj
  have loop : ∀ (m n : Nat), sz - n < m → n ≤ sz → V g mX4_rankOf (rmD 0 0 0) (QM g 0 0 (rP (vi (rnk (gG τ 58) j sz)) τ)) 4 [some (vq (some 55)), some (vi (j : Int)), some (vi (rnk (gG τ 58) j n)), some (vi (n : Int))] [] 0 0 τ := by
    intro m
    induction m with
    | zero => intro n hm; omega
    | succ m ih =>
      intro n hm hn
      refine V_iload_n dX4_rankOf_4 rfl ?_
      refine V_aload_n dX4_rankOf_5 rfl ?_
      refine V_getfi dX4_rankOf_6 sf_RX4_39 rfl (sh hS rfl) ?_
      refine V_icmpge (tgt := 56) dX4_rankOf_9 (by decide) (by omega) (by omega) (fun br9 => ?_) (fun br9 => ?_)
      · have : n = sz := by omega
        subst this
        refine V_iload_n dX4_rankOf_56 rfl ?_
        refine V_iret dX4_rankOf_57 rfl (Nat.le_refl _) (Nat.le_refl _) ?_
        exact ⟨rfl, rfl⟩
      · have hgn := hg n (by omega)
        refine V_aload_n dX4_rankOf_12 rfl ?_
        refine V_getfr dX4_rankOf_13 sf_RX4_18 (by decide) (sh hS rfl) (rf hS rfl) ?_
        refine V_iload_n dX4_rankOf_16 rfl ?_
        refine V_iald dX4_rankOf_17 (sh hS rfl) (by omega) ?_
        rw [Int.toNat_natCast]
        refine V_aload_n dX4_rankOf_18 rfl ?_
        refine V_getfr dX4_rankOf_19 sf_RX4_18 (by decide) (sh hS rfl) (rf hS rfl) ?_
        refine V_iload_n dX4_rankOf_22 rfl ?_
        refine V_iald dX4_rankOf_23 (sh hS rfl) (by omega) ?_
        rw [Int.toNat_natCast]
        refine V_icmpgt (tgt := 47) dX4_rankOf_24 (by decide) (by omega) (by omega) (fun br24 => ?_) (fun br24 => ?_)
        · refine V_iinc dX4_rankOf_47 rfl (by decide) rfl ?_
          have q := ih (n + 1) (by omega) (by omega)
          first | rw [rnk_t (by omega)] at q | rw [rnk_f (by omega)] at q
          refine V_iinc dX4_rankOf_50 rfl (by decide) rfl ?_
          refine V_goto (tgt := 4) dX4_rankOf_53 (by decide) ?_
          refine V_mask [true, true, true, true] ?_
          exact q
        · refine V_aload_n dX4_rankOf_27 rfl ?_
          refine V_getfr dX4_rankOf_28 sf_RX4_18 (by decide) (sh hS rfl) (rf hS rfl) ?_
          refine V_iload_n dX4_rankOf_31 rfl ?_
          refine V_iald dX4_rankOf_32 (sh hS rfl) (by omega) ?_
          rw [Int.toNat_natCast]
          refine V_aload_n dX4_rankOf_33 rfl ?_
          refine V_getfr dX4_rankOf_34 sf_RX4_18 (by decide) (sh hS rfl) (rf hS rfl) ?_
          refine V_iload_n dX4_rankOf_37 rfl ?_
          refine V_iald dX4_rankOf_38 (sh hS rfl) (by omega) ?_
          rw [Int.toNat_natCast]
          refine V_icmpne (tgt := 50) dX4_rankOf_39 (by decide) (by omega) (by omega) (fun br39 => ?_) (fun br39 => ?_)
          · have q := ih (n + 1) (by omega) (by omega)
            first | rw [rnk_t (by omega)] at q | rw [rnk_f (by omega)] at q
            refine V_iinc dX4_rankOf_50 rfl (by decide) rfl ?_
            refine V_goto (tgt := 4) dX4_rankOf_53 (by decide) ?_
            refine V_mask [true, true, true, true] ?_
            exact q
          · refine V_iload_n dX4_rankOf_42 rfl ?_
            refine V_iload_n dX4_rankOf_43 rfl ?_
            refine V_icmpge (tgt := 50) dX4_rankOf_44 (by decide) (by omega) (by omega) (fun br44 => ?_) (fun br44 => ?_)
            · have q := ih (n + 1) (by omega) (by omega)
              first | rw [rnk_t (by omega)] at q | rw [rnk_f (by omega)] at q
              refine V_iinc dX4_rankOf_50 rfl (by decide) rfl ?_
              refine V_goto (tgt := 4) dX4_rankOf_53 (by decide) ?_
              refine V_mask [true, true, true, true] ?_
              exact q
            · refine V_iinc dX4_rankOf_47 rfl (by decide) rfl ?_
              have q := ih (n + 1) (by omega) (by omega)
              first | rw [rnk_t (by omega)] at q | rw [rnk_f (by omega)] at q
              refine V_iinc dX4_rankOf_50 rfl (by decide) rfl ?_
              refine V_goto (tgt := 4) dX4_rankOf_53 (by decide) ?_
              refine V_mask [true, true, true, true] ?_
              exact q
  refine V_iconst dX4_rankOf_0 ?_
  refine V_istore_n dX4_rankOf_1 (by decide) rfl ?_
  refine V_iconst dX4_rankOf_2 ?_
  refine V_istore_n dX4_rankOf_3 (by decide) rfl ?_
  refine V_mask [true, true, true, true] ?_
  exact loop _ 0 (Nat.lt_succ_self _) (Nat.zero_le _)
/-- the first of the places below n whose rank is i; -1 if there is none -/
def jrk (h : Nat → Int) (sz : Nat) (i : Int) : Nat → Nat → Int
  | 0, _ => -1
  | m + 1, j => if rnk h j sz = i then (j : Int) else jrk h sz i m (j + 1)
theorem jrk_b (h : Nat → Int) (sz : Nat) (i : Int) : ∀ (m j : Nat), jrk h sz i m j = -1 ∨ ((j : Int) ≤ jrk h sz i m j ∧ jrk h sz i m j < j + m)
  | 0, _ => Or.inl rfl
  | m + 1, j => by
    unfold jrk
    split
    · right; omega
    · rcases jrk_b h sz i m (j + 1) with q | q
      · exact Or.inl q
      · right; omega
theorem c_jointOfRank (g : Gl) (τ : St) (hS : Std τ) (sz : Nat) (hz : gG τ 55 5 = (sz : Int)) (h8 : sz ≤ 8) (hg : ∀ j, j < sz → 0 ≤ gG τ 58 j ∧ gG τ 58 j ≤ 99) (i : Int) (hi : inR i) : Ct g mX4_jointOfRank 1 0 0 [vq (some 55), vi i] τ (rP (vi (jrk (gG τ 58) sz i sz 0)) τ) := by
  refine Ct.of (by decide +kernel) (Nat.le_of_ble_eq_true rfl) ?_
  have loop : ∀ (m j : Nat), sz = j + m → V g mX4_jointOfRank (rmD 1 0 0) (QM g 0 0 (rP (vi (jrk (gG τ 58) sz i m j)) τ)) 2 [some (vq (some 55)), some (vi i), some (vi (j : Int))] [] 0 0 τ := by
    intro m
    induction m with
    | zero =>
      intro j hm
      refine V_iload_n dX4_jointOfRank_2 rfl ?_
      refine V_aload_n dX4_jointOfRank_3 rfl ?_
      refine V_getfi dX4_jointOfRank_4 sf_RX4_39 rfl (sh hS rfl) ?_
      refine V_icmpge (tgt := 27) dX4_jointOfRank_7 (by decide) (by omega) (by omega) (fun br7 => ?_) (fun br7 => ?_)
      · refine V_iconst dX4_jointOfRank_27 ?_
        refine V_iret dX4_jointOfRank_28 rfl (Nat.le_refl _) (Nat.le_refl _) ?_
        exact ⟨rfl, rfl⟩
      · omega
    | succ m ih =>
      intro j hm
      have hb := rnk_b (gG τ 58) j sz
      refine V_iload_n dX4_jointOfRank_2 rfl ?_
      refine V_aload_n dX4_jointOfRank_3 rfl ?_
      refine V_getfi dX4_jointOfRank_4 sf_RX4_39 rfl (sh hS rfl) ?_
      refine V_icmpge (tgt := 27) dX4_jointOfRank_7 (by decide) (by omega) (by omega) (fun br7 => ?_) (fun br7 => ?_)
      · omega
      · refine V_aload_n dX4_jointOfRank_10 rfl ?_
        refine V_iload_n dX4_jointOfRank_11 rfl ?_
        refine V_callV dX4_jointOfRank_12 (c_rankOf g _ hS sz hz h8 hg j (by omega)) sv_RX4_67 (sh hS rfl) rfl ⟨⟨by decide, by decide⟩, ⟨by decide, by decide⟩⟩ (Nat.le_of_ble_eq_true rfl) (fun r12 s12 p12 => ?_)
        obtain ⟨rfl, rfl⟩ := p12
        refine V_iload_n dX4_jointOfRank_15 rfl ?_
        refine V_icmpne (tgt := 21) dX4_jointOfRank_16 (by decide) (by omega) (by omega) (fun br16 => ?_) (fun br16 => ?_)
        · refine V_iinc dX4_jointOfRank_21 rfl (by decide) rfl ?_
          refine V_goto (tgt := 2) dX4_jointOfRank_24 (by decide) ?_
          refine V_mask [true, true, true] ?_
          have q := ih (j + 1) (by omega)
          rw [show jrk (gG τ 58) sz i (m + 1) j = jrk (gG τ 58) sz i m (j + 1) from if_neg br16]
          exact q
        · refine V_iload_n dX4_jointOfRank_19 rfl ?_
          refine V_iret dX4_jointOfRank_20 rfl (Nat.le_refl _) (Nat.le_refl _) ?_
          exact rP_i (by unfold jrk; rw [if_pos br16]) rfl
  refine V_iconst dX4_jointOfRank_0 ?_
  refine V_istore_n dX4_jointOfRank_1 (by decide) rfl ?_
  refine V_mask [true, true, true] ?_
  exact loop sz 0 (by omega)