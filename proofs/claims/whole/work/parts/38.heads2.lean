/-! heads: what comes on top of what is laid -/
def stpM (best v : Int) : Int := if v ≠ -5 ∧ (best = -5 ∨ v < best) then v else best
def mfold (l : List Int) : Int := l.foldl stpM (-5)
def plusN (c a : Int) : Int := if a = -5 then -5 else c + a
def hM (w : Nat → Int) (r : Int) : Nat → List Nat → Int → Int
  | 0, _, s => if 2 * r ≤ s then 0 else -5
  | k + 1, l, s => if 2 * r ≤ s then 0 else mfold (l.map fun x => plusN (spt r (wid w x) s) (hM w r k (drp l x) (s + wid w x)))
def hC (w : Nat → Int) (r : Int) : Nat → List Nat → Int → Int
  | 0, _, s => if 2 * r ≤ s then 1 else 0
  | k + 1, l, s => if 2 * r ≤ s then 1 else sumL (l.map fun x => hC w r k (drp l x) (s + wid w x))
theorem fold_or : ∀ (l : List Int) (b : Int), l.foldl stpM b = b ∨ l.foldl stpM b ∈ l
  | [], b => Or.inl rfl
  | a :: t, b => by
    show t.foldl stpM (stpM b a) = b ∨ t.foldl stpM (stpM b a) ∈ a :: t
    rcases fold_or t (stpM b a) with h | h
    · rw [h]
      unfold stpM
      split
      · exact Or.inr List.mem_cons_self
      · exact Or.inl rfl
    · exact Or.inr (List.mem_cons_of_mem _ h)
theorem mfold_or (l : List Int) : mfold l = -5 ∨ mfold l ∈ l := fold_or l (-5)
theorem mfold_app (l : List Int) (v : Int) : mfold (l ++ [v]) = stpM (mfold l) v := by
  unfold mfold
  rw [List.foldl_append]
  rfl
theorem hM_b {w : Nat → Int} (hW : WF w) {r : Int} (hr : 1 ≤ r ∧ r ≤ 200) : ∀ (k : Nat) (l : List Nat) (s : Int), (∀ x ∈ l, x < nB w) → 0 ≤ s → hM w r k l s = -5 ∨ (0 ≤ hM w r k l s ∧ hM w r k l s ≤ 40000 * k)
  | 0, l, s, _, _ => by unfold hM; split <;> omega
  | k + 1, l, s, hl, hs => by
    unfold hM
    split
    · omega
    · rcases mfold_or (l.map fun x => plusN (spt r (wid w x) s) (hM w r k (drp l x) (s + wid w x))) with h | h
      · exact Or.inl h
      · rw [List.mem_map] at h
        obtain ⟨x, hx, e⟩ := h
        rw [← e]
        have wb := wid_b hW (hl x hx)
        have a := hM_b hW hr k (drp l x) (s + wid w x) (fun y hy => hl y (drp_sub hy)) (by omega)
        have b := spt_b (wd := wid w x) hr (s := s) (by omega) (by omega)
        unfold plusN
        split <;> omega
def cmp (w : Nat → Int) (L : Nat) : Nat := 2 ^ nB w - (L + 1)
def remL (w : Nat → Int) (L : Nat) : List Nat := mem (cmp w L) (nB w)
def tvM (w : Nat → Int) (r : Int) (L : Nat) : Int := hM w r (remL w L).length (remL w L) (eW w L)
def tvC (w : Nat → Int) (r : Int) (L : Nat) : Int := hC w r (remL w L).length (remL w L) (eW w L)
set_option maxRecDepth 100000 in
theorem bits_add : ∀ L : Nat, L < 128 → ∀ x : Nat, x < 7 → L.testBit x = false → ∀ j : Nat, j < 7 → (L + 2 ^ x).testBit j = (L.testBit j || decide (j = x)) := by decide +kernel
theorem cmp_bit {w : Nat → Int} {L x : Nat} (hL : L < 2 ^ nB w) : (cmp w L).testBit x = (decide (x < nB w) && !L.testBit x) := Nat.testBit_two_pow_sub_succ hL x
theorem sumB_ins {f : Nat → Int} {L T x : Nat} (hx : L.testBit x = false) (hb : ∀ j, j < 7 → T.testBit j = (L.testBit j || decide (j = x))) : ∀ n : Nat, n ≤ 7 → sumB f T n = sumB f L n + if x < n then f x else 0
  | 0, _ => by simp [sumB]
  | n + 1, hn => by
    unfold sumB
    rw [sumB_ins hx hb n (by omega), hb n (by omega)]
    by_cases e : n = x
    · subst e
      rw [hx, if_neg (by omega), if_pos (by simp), if_neg (by decide), if_pos (by omega)]
    · have : decide (n = x) = false := decide_eq_false e
      rw [this, Bool.or_false]
      (repeat' split) <;> omega
theorem rem_in {w : Nat → Int} {L x : Nat} (hL : L < 2 ^ nB w) : x ∈ remL w L ↔ x < nB w ∧ ¬ L.testBit x = true := by
  unfold remL
  rw [mem_in, cmp_bit hL]
  simp
theorem rem_add {w : Nat → Int} (hW : WF w) {L x : Nat} (hL : L < 2 ^ nB w) (hx : x < nB w) (hb : ¬ L.testBit x = true) : L + 2 ^ x < 2 ^ nB w ∧ remL w (L + 2 ^ x) = drp (remL w L) x ∧ eW w (L + 2 ^ x) = eW w L + wid w x ∧ (remL w (L + 2 ^ x)).length + 1 = (remL w L).length := by
  have hN := wf_nB hW
  have hp : 2 ^ nB w ≤ 2 ^ 7 := pw_le hN.2
  have hb2 : L.testBit x = false := by cases q : L.testBit x with
    | true => exact absurd q hb
    | false => rfl
  have c1 : (cmp w L).testBit x = true := by rw [cmp_bit hL, hb2, decide_eq_true hx]; rfl
  have c2 : cmp w L < 128 := by unfold cmp; omega
  have c3 := (bits_all (cmp w L) (by omega) x (by omega) c1).2.1
  have e : cmp w (L + 2 ^ x) = cmp w L - 2 ^ x := by unfold cmp; omega
  have e2 : remL w (L + 2 ^ x) = drp (remL w L) x := by
    unfold remL
    rw [e]
    exact mem_clr (by omega) (by omega) (by omega) c1
  refine ⟨by unfold cmp at c3; omega, e2, ?_, ?_⟩
  · unfold eW
    rw [sumB_ins hb2 (bits_add L (by omega) x (by omega) hb2) (nB w) hN.2, if_pos hx]
  · rw [e2]
    exact drp_len (mem_nodup _ _) ((rem_in hL).mpr ⟨hx, hb⟩)
/-- the value of going on with x behind L -/
def onM (w : Nat → Int) (r : Int) (L x : Nat) : Int := plusN (spt r (wid w x) (eW w L)) (tvM w r (L + 2 ^ x))
theorem map_cong {α β : Type} {f h : α → β} : ∀ {l : List α}, (∀ x ∈ l, f x = h x) → l.map f = l.map h
  | [], _ => rfl
  | a :: t, q => by
    rw [List.map_cons, List.map_cons, q a List.mem_cons_self, map_cong (fun x hx => q x (List.mem_cons_of_mem _ hx))]
theorem tvM_is {w : Nat → Int} (hW : WF w) {r : Int} {L : Nat} (hL : L < 2 ^ nB w) : tvM w r L = if 2 * r ≤ eW w L then 0 else mfold ((remL w L).map (onM w r L)) := by
  unfold tvM
  cases hk : (remL w L).length with
  | zero =>
    rw [List.length_eq_zero_iff.mp hk]
    rfl
  | succ k =>
    show (if _ then _ else _) = _
    congr 2
    refine map_cong (fun x hx => ?_)
    have q := (rem_in hL).mp hx
    have a := rem_add hW hL q.1 q.2
    unfold onM tvM
    rw [a.2.1, a.2.2.1, show (drp (remL w L) x).length = k by rw [← a.2.1]; omega]
theorem tvC_is {w : Nat → Int} (hW : WF w) {r : Int} {L : Nat} (hL : L < 2 ^ nB w) : tvC w r L = if 2 * r ≤ eW w L then 1 else sumL ((remL w L).map (fun x => tvC w r (L + 2 ^ x))) := by
  unfold tvC
  cases hk : (remL w L).length with
  | zero =>
    rw [List.length_eq_zero_iff.mp hk]
    rfl
  | succ k =>
    show (if _ then _ else _) = _
    congr 2
    refine map_cong (fun x hx => ?_)
    have q := (rem_in hL).mp hx
    have a := rem_add hW hL q.1 q.2
    rw [a.2.1, a.2.2.1, show (drp (remL w L) x).length = k by rw [← a.2.1]; omega]
theorem rem_len {w : Nat → Int} (hW : WF w) (L : Nat) : (remL w L).length ≤ 7 := by
  have := List.length_filter_le (fun i => (cmp w L).testBit i) (List.range (nB w))
  rw [List.length_range] at this
  have := wf_nB hW
  unfold remL mem
  omega
theorem tvM_b {w : Nat → Int} (hW : WF w) {r : Int} (hr : 1 ≤ r ∧ r ≤ 200) {L : Nat} (hL : L < 2 ^ nB w) : tvM w r L = -5 ∨ (0 ≤ tvM w r L ∧ tvM w r L ≤ 280000) := by
  have a := hM_b hW hr (remL w L).length (remL w L) (eW w L) (fun x hx => ((rem_in hL).mp hx).1) (eW_b hW L).1
  have b := rem_len hW L
  unfold tvM
  omega
theorem onM_b {w : Nat → Int} (hW : WF w) {r : Int} (hr : 1 ≤ r ∧ r ≤ 200) {L x : Nat} (hL : L < 2 ^ nB w) (hx : x < nB w) (hb : ¬ L.testBit x = true) (hd : ¬ 2 * r ≤ eW w L) : onM w r L x = -5 ∨ (0 ≤ onM w r L x ∧ onM w r L x ≤ 320000) := by
  have a := tvM_b hW hr (rem_add hW hL hx hb).1
  have wb := wid_b hW hx
  have b := spt_b (wd := wid w x) hr (s := eW w L) (by have := eW_b hW L; omega) (by omega)
  unfold onM plusN
  split <;> omega
theorem ior_at {L x : Nat} (hL : L < 128) (hx : x < 7) (hb : ¬ L.testBit x = true) : iOr (L : Int) (1 * 2 ^ (x : Int).toNat) = ((L + 2 ^ x : Nat) : Int) := by
  rw [ins_of (by omega) (by omega) (by omega) (by omega)]
  unfold ins
  rw [if_neg (fun z => hb ((bt_nat L x).mp z)), Int.toNat_natCast, Int.natCast_add, Int.natCast_pow]
  rfl
theorem c_spentFrom (g : Gl) (τ : St) (w : Nat → Int) (hX : XS τ w) (r : Int) (hr : 1 ≤ r ∧ r ≤ 200) (hB : HB τ w r) (L x : Nat) (hL : L < 2 ^ nB w) (hx : x < nB w) (hb : ¬ L.testBit x = true) (hd : ¬ 2 * r ≤ eW w L) (hT : gG τ 76 (L + 2 ^ x) = tvM w r (L + 2 ^ x)) : Ct g mX2_spentFrom 2 0 0 [vq (some 72), vi (L : Int), vi (x : Int)] τ (rP (vi (onM w r L x)) τ) := by
  refine Ct.of (by decide +kernel) (Nat.le_of_ble_eq_true rfl) ?_
  have hS := hX.1
  have hW := hX.2.2
  have hN := wf_nB hW
  have hp : 2 ^ nB w ≤ 2 ^ 7 := pw_le hN.2
  have a := rem_add hW hL hx hb
  have tb := tvM_b hW hr a.1
  have eb := eW_b hW L
  have wb := wid_b hW hx
  refine V_aload_n dX2_spentFrom_0 rfl ?_
  refine V_getfr dX2_spentFrom_1 sf_RX2_21 (by decide) (sh hS rfl) (rf hS rfl) ?_
  refine V_iload_n dX2_spentFrom_4 rfl ?_
  refine V_iconst dX2_spentFrom_5 ?_
  refine V_iload_n dX2_spentFrom_6 rfl ?_
  refine V_ishl dX2_spentFrom_7 (by omega) ?_
  refine V_ior dX2_spentFrom_8 ?_
  refine V_val (ior_at (by omega) (by omega) hb) ?_
  refine V_iald dX2_spentFrom_9 (sh hS rfl) (by exact ⟨Int.natCast_nonneg _, Int.ofNat_lt.mpr (by omega)⟩) ?_
  refine V_val (show _ = tvM w r (L + 2 ^ x) from hT) ?_
  refine V_istore_n dX2_spentFrom_10 (by decide) rfl ?_
  refine V_iload_n dX2_spentFrom_11 rfl ?_
  refine V_bipush dX2_spentFrom_12 (by decide) ?_
  refine V_icmpne (tgt := 22) dX2_spentFrom_14 (by decide) (by omega) (by omega) (fun br14 => ?_) (fun br14 => ?_)
  · refine V_aload_n dX2_spentFrom_22 rfl ?_
    refine V_iload_n dX2_spentFrom_23 rfl ?_
    refine V_aload_n dX2_spentFrom_24 rfl ?_
    refine V_getfr dX2_spentFrom_25 sf_RX2_18 (by decide) (sh hS rfl) (rf hS rfl) ?_
    refine V_iload_n dX2_spentFrom_28 rfl ?_
    refine V_iald dX2_spentFrom_29 (sh hS rfl) (by omega) ?_
    refine V_val (show _ = eW w L by rw [Int.toNat_natCast]; exact hB.2.2.2 L hL) ?_
    refine V_callV dX2_spentFrom_30 (c_spentOn g _ hS r (wid w x) (eW w L) x (by omega) hB.1 (hB.2.2.1 x hx) hr (by omega) (by omega)) sv_RX2_69 (sh hS rfl) rfl ⟨⟨by decide, by decide⟩, ⟨by decide, by decide⟩⟩ (Nat.le_of_ble_eq_true rfl) (fun r30 s30 p30 => ?_)
    obtain ⟨rfl, rfl⟩ := p30
    refine V_iload_n dX2_spentFrom_33 rfl ?_
    refine V_iadd dX2_spentFrom_34 ?_
    refine V_iret dX2_spentFrom_35 rfl (Nat.le_refl _) (Nat.le_refl _) ?_
    first
      | exact rP_i (show spt r (wid w x) (eW w L) + tvM w r (L + 2 ^ x) = onM w r L x from (if_neg br14).symm) rfl
      | exact rP_i (show -5 = onM w r L x from (if_pos (by omega)).symm) rfl
  · refine V_bipush dX2_spentFrom_17 (by decide) ?_
    refine V_goto (tgt := 35) dX2_spentFrom_19 (by decide) ?_
    refine V_iret dX2_spentFrom_35 rfl (Nat.le_refl _) (Nat.le_refl _) ?_
    first
      | exact rP_i (show spt r (wid w x) (eW w L) + tvM w r (L + 2 ^ x) = onM w r L x from (if_neg br14).symm) rfl
      | exact rP_i (show -5 = onM w r L x from (if_pos (by omega)).symm) rfl