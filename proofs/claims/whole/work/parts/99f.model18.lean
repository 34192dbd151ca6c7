/-! the model saws heads -/
theorem c_mUsedBy (g : Gl) (σ : St) (w : Nat → Int) (hX : MX σ w) (r : Int) (hr : 1 ≤ r ∧ r ≤ 200) (b : Nat) (hb : b < nB w) (s : Int) (hs : 0 ≤ s ∧ s < 2 * r) : Ct g mX12_usedBy 1 0 0 [vq (some 77), vi r, vi (b : Int), vi s] σ (rP (vi (spt r (wid w b) s)) σ) := by
  refine Ct.of (by decide +kernel) (Nat.le_of_ble_eq_true rfl) ?_
  have hX0 := hX
  obtain ⟨hS, h78, hw⟩ := hX
  have hN := wf_nB hw
  have wb := wid_b hw hb
  have hq := sqF_b (wd := wid w b) hr hs (by omega)
  have m1 := mul_bd (a := rt (sqF r (wid w b) s)) (b := rt (sqF r (wid w b) s)) (A := 200) (B := 200) hq.2.2 hq.2.2
  have fin : ∀ v : Int, v = offF r (wid w b) s → V g mX12_usedBy (rmD 1 0 0) (QM g 0 0 (rP (vi (spt r (wid w b) s)) σ)) 40 [none, some (vi r), none, none, some (vi (wid w b)), none, none, none] [vi v] 0 0 σ := by
    intro v hv
    subst hv
    refine V_istore dX12_usedBy_40 (by decide) rfl ?_
    refine V_iload_n dX12_usedBy_42 rfl ?_
    refine V_iload_n dX12_usedBy_43 rfl ?_
    refine V_imul dX12_usedBy_44 ?_
    refine V_iload dX12_usedBy_45 rfl ?_
    refine V_iload dX12_usedBy_47 rfl ?_
    refine V_imul dX12_usedBy_49 ?_
    refine V_isub dX12_usedBy_50 ?_
    refine V_val (show _ = sqF r (wid w b) s from rfl) ?_
    refine V_istore dX12_usedBy_51 (by decide) rfl ?_
    refine V_iload dX12_usedBy_53 rfl ?_
    refine V_callS dX12_usedBy_55 (c_mRoot g _ _ hq.2.1.1 (by omega)) ss_RX12_93 rfl ⟨⟨by decide, by decide⟩, ⟨by decide, by decide⟩⟩ (Nat.le_of_ble_eq_true rfl) (fun r55 s55 p55 => ?_)
    obtain ⟨rfl, rfl⟩ := p55
    refine V_istore dX12_usedBy_58 (by decide) rfl ?_
    refine V_iload dX12_usedBy_60 rfl ?_
    refine V_iload dX12_usedBy_62 rfl ?_
    refine V_imul dX12_usedBy_64 ?_
    refine V_iload dX12_usedBy_65 rfl ?_
    refine V_icmpge (tgt := 73) dX12_usedBy_67 (by decide) (by omega) (by omega) (fun br67 => ?_) (fun br67 => ?_)
    · refine V_iconst dX12_usedBy_73 ?_
      refine V_iload dX12_usedBy_74 rfl ?_
      refine V_imul dX12_usedBy_76 ?_
      refine V_iload dX12_usedBy_77 rfl ?_
      refine V_imul dX12_usedBy_79 ?_
      refine V_iret dX12_usedBy_80 rfl (Nat.le_refl _) (Nat.le_refl _) ?_
      first
      | exact rP_i (show 2 * wid w b * (rt (sqF r (wid w b) s) + 1) = _ by unfold spt; rw [if_pos (by omega), Int.mul_comm 2 (wid w b)]) rfl
      | exact rP_i (show 2 * wid w b * rt (sqF r (wid w b) s) = _ by unfold spt; rw [if_neg (by omega), Int.mul_comm 2 (wid w b)]) rfl
    · refine V_iinc dX12_usedBy_70 rfl (by decide) rfl ?_
      refine V_iconst dX12_usedBy_73 ?_
      refine V_iload dX12_usedBy_74 rfl ?_
      refine V_imul dX12_usedBy_76 ?_
      refine V_iload dX12_usedBy_77 rfl ?_
      refine V_imul dX12_usedBy_79 ?_
      refine V_iret dX12_usedBy_80 rfl (Nat.le_refl _) (Nat.le_refl _) ?_
      first
      | exact rP_i (show 2 * wid w b * (rt (sqF r (wid w b) s) + 1) = _ by unfold spt; rw [if_pos (by omega), Int.mul_comm 2 (wid w b)]) rfl
      | exact rP_i (show 2 * wid w b * rt (sqF r (wid w b) s) = _ by unfold spt; rw [if_neg (by omega), Int.mul_comm 2 (wid w b)]) rfl
  refine V_aload_n dX12_usedBy_0 rfl ?_
  refine V_getfr dX12_usedBy_1 sf_RX12_9 (by decide) (sh hS rfl) (rf hS rfl) ?_
  refine V_bipush dX12_usedBy_4 (by decide) ?_
  refine V_iload_n dX12_usedBy_6 rfl ?_
  refine V_iadd dX12_usedBy_7 ?_
  refine V_iald dX12_usedBy_8 (sh hS rfl) (by omega) ?_
  refine V_val (show _ = wid w b from mw h78 (k := 70 + b) (by omega)) ?_
  refine V_istore dX12_usedBy_9 (by decide) rfl ?_
  refine V_iload_n dX12_usedBy_11 rfl ?_
  refine V_iload_n dX12_usedBy_12 rfl ?_
  refine V_icmple (tgt := 22) dX12_usedBy_13 (by decide) (by omega) (by omega) (fun br13 => ?_) (fun br13 => ?_)
  · refine V_iload_n dX12_usedBy_22 rfl ?_
    refine V_iload dX12_usedBy_23 rfl ?_
    refine V_iadd dX12_usedBy_25 ?_
    refine V_iload_n dX12_usedBy_26 rfl ?_
    refine V_icmpge (tgt := 39) dX12_usedBy_27 (by decide) (by omega) (by omega) (fun br27 => ?_) (fun br27 => ?_)
    · refine V_iconst dX12_usedBy_39 ?_
      refine V_mask [false, true, false, false, true, false, false, false] ?_
      refine fin _ ?_
      unfold offF
      omega
    · refine V_iload_n dX12_usedBy_30 rfl ?_
      refine V_iload_n dX12_usedBy_31 rfl ?_
      refine V_isub dX12_usedBy_32 ?_
      refine V_iload dX12_usedBy_33 rfl ?_
      refine V_isub dX12_usedBy_35 ?_
      refine V_goto (tgt := 40) dX12_usedBy_36 (by decide) ?_
      refine V_mask [false, true, false, false, true, false, false, false] ?_
      refine fin _ ?_
      unfold offF
      omega
  · refine V_iload_n dX12_usedBy_16 rfl ?_
    refine V_iload_n dX12_usedBy_17 rfl ?_
    refine V_isub dX12_usedBy_18 ?_
    refine V_goto (tgt := 40) dX12_usedBy_19 (by decide) ?_
    refine V_mask [false, true, false, false, true, false, false, false] ?_
    refine fin _ ?_
    unfold offF
    omega
def MH (n : Nat) (σ τ : St) : Prop := (gl τ = gl σ ∧ gn τ = gn σ ∧ gL τ = gL σ ∧ gP τ = gP σ) ∧ (∀ a, a ≠ 77 → a ≠ 86 → gG τ a = gG σ a) ∧ (∀ j, j < 20 ∨ 23 < j → gG τ 77 j = gG σ 77 j) ∧ ∀ j, j < n → gG τ 86 j = gG σ 86 j
theorem MH.rf (n : Nat) (σ : St) : MH n σ σ := ⟨⟨rfl, rfl, rfl, rfl⟩, fun _ _ _ => rfl, fun _ _ => rfl, fun _ _ => rfl⟩
theorem MH.tr {n k : Nat} {σ τ υ : St} (h : MH n σ τ) (h2 : MH k τ υ) (hk : n ≤ k) : MH n σ υ := ⟨⟨h2.1.1.trans h.1.1, h2.1.2.1.trans h.1.2.1, h2.1.2.2.1.trans h.1.2.2.1, h2.1.2.2.2.trans h.1.2.2.2⟩, fun a p q => (h2.2.1 a p q).trans (h.2.1 a p q), fun j p => (h2.2.2.1 j p).trans (h.2.2.1 j p), fun j hj => (h2.2.2.2 j (by omega)).trans (h.2.2.2 j hj)⟩
theorem MH.on77 {n : Nat} {σ τ : St} (h : MH n σ τ) {k : Nat} (v : Int) (hk : 20 ≤ k ∧ k ≤ 23) : MH n σ (setG τ 77 k v) := ⟨h.1, fun a p q => (up1_ne _ p _).trans (h.2.1 a p q), fun j p => (gG_ne _ _ (Or.inr (by omega))).trans (h.2.2.1 j p), fun j hj => (gG_ne _ _ (Or.inl (by decide))).trans (h.2.2.2 j hj)⟩
theorem MH.on86 {n : Nat} {σ τ : St} (h : MH n σ τ) {k : Nat} (v : Int) (hk : n ≤ k) : MH n σ (setG τ 86 k v) := ⟨h.1, fun a p q => (up1_ne _ q _).trans (h.2.1 a p q), fun j p => (gG_ne _ _ (Or.inl (by decide))).trans (h.2.2.1 j p), fun j hj => (gG_ne _ _ (Or.inr (by omega))).trans (h.2.2.2 j hj)⟩
theorem MH.ms {n : Nat} {σ τ : St} (h : MH n σ τ) : MS σ τ := ⟨⟨h.1.1, h.1.2.1, h.1.2.2.2⟩, fun a _ => by rw [h.1.2.2.1], fun a p => h.2.1 a (by omega) (by omega), fun j p => h.2.2.1 j (by omega)⟩
theorem dg_app (x : Nat) : ∀ (l : List Nat) (d : Int), dg d (l ++ [x]) = dg d l * 10 + x + 1
  | [], _ => rfl
  | a :: t, d => dg_app x t _
theorem hM_d {w : Nat → Int} {r : Int} {l : List Nat} {s : Int} (h : 2 * r ≤ s) : ∀ K, hM w r K l s = 0 ∧ hC w r K l s = 1 ∧ hA w r K l s = []
  | 0 => ⟨if_pos h, if_pos h, rfl⟩
  | K + 1 => ⟨if_pos h, if_pos h, if_pos h⟩
/-- what going on through what is left does -/
def GO (w : Nat → Int) (r : Int) (K : Nat) (rem l : List Nat) (s so : Int) (σ τ : St) : Prop :=
  gG τ 77 20 = gG σ 77 20 + hC w r K rem s ∧
  gG τ 77 21 = (if hM w r K rem s = -5 then gG σ 77 21 else min (gG σ 77 21) (so + hM w r K rem s)) ∧
  gG τ 77 23 = (if hM w r K rem s ≠ -5 ∧ so + hM w r K rem s < gG σ 77 21 then ((l ++ hA w r K rem s).length : Int) else gG σ 77 23) ∧
  gG τ 77 22 = (if hM w r K rem s ≠ -5 ∧ so + hM w r K rem s < gG σ 77 21 then dg 0 (l ++ hA w r K rem s) else gG σ 77 22)
def PGO (w : Nat → Int) (r : Int) (K : Nat) (rem l : List Nat) (n : Nat) (s so : Int) (σ : St) : Option MV → St → Prop := fun q τ => q = none ∧ MH n σ τ ∧ GO w r K rem l s so σ τ
theorem c_mOnD (g : Gl) (w : Nat → Int) (r : Int) (hr : 1 ≤ r ∧ r ≤ 200) (K n d : Nat) (σ : St) (L : Int) (hL : inR L) (rem l : List Nat) (s so : Int) (hX : MX σ w) (hl : l.length = n) (hn : n ≤ 7) (hs : 2 * r ≤ s ∧ s ≤ 693) (hrow : ∀ j, j < n → gG σ 86 j = ((l.getD j 0 : Nat) : Int)) (hso : 0 ≤ so ∧ so ≤ 1000000) (hu : 0 ≤ gG σ 77 21 ∧ gG σ 77 21 ≤ 1000000000) :
    Ct g mX12_goesOn d 0 0 [vq (some 77), vi r, vi L, vi (n : Int), vi s, vi so] σ (PGO w r K rem l n s so σ) := by
  refine Ct.of (by decide +kernel) (Nat.le_of_ble_eq_true rfl) ?_
  have hS := hX.1
  obtain ⟨e1, e2, e3⟩ := hM_d (w := w) (l := rem) hs.1 K
  have copy : ∀ (m i : Nat) (τ : St), i + m = n → MS σ τ → MH n σ τ → so < gG σ 77 21 → gG τ 77 20 = gG σ 77 20 + 1 → gG τ 77 21 = so → gG τ 77 23 = (n : Int) → gG τ 77 22 = dg 0 (l.take i) →
      V g mX12_goesOn (rmD d 0 0) (QM g 0 0 (PGO w r K rem l n s so σ)) 47 [some (vq (some 77)), none, none, some (vi (n : Int)), none, none, some (vi (i : Int))] [] 0 0 τ := by
    intro m
    induction m with
    | zero =>
      intro i τ hi hm hF hlt h20 h21 h23 h22
      have hei : i = n := by omega
      subst hei
      refine V_iload dX12_goesOn_47 rfl ?_
      refine V_iload_n dX12_goesOn_49 rfl ?_
      refine V_icmpge (tgt := 80) dX12_goesOn_50 (by decide) (by omega) (by omega) (fun br50 => ?_) (fun br50 => ?_)
      · refine V_vret dX12_goesOn_80 rfl (Nat.le_refl _) (Nat.le_refl _) ?_
        refine ⟨rfl, hF, ?_, ?_, ?_, ?_⟩
        · rw [h20, e2]
        · rw [e1, if_neg (by decide), h21]; omega
        · rw [e1, if_pos ⟨by decide, by omega⟩, h23, e3, List.append_nil, hl]
        · rw [e1, if_pos ⟨by decide, by omega⟩, h22, e3, List.append_nil, ← hl, List.take_length]
      · omega
    | succ m ih =>
      intro i τ hi hm hF hlt h20 h21 h23 h22
      have hS := hm.std hS
      have er : gG τ 86 i = ((l.getD i 0 : Nat) : Int) := (hF.2.2.2 i (by omega)).trans (hrow i (by omega))
      have et : l.take (i + 1) = l.take i ++ [l.getD i 0] := by
        rw [List.take_add_one, List.getD_eq_getElem?_getD, List.getElem?_eq_getElem (by omega)]; rfl
      refine V_iload dX12_goesOn_47 rfl ?_
      refine V_iload_n dX12_goesOn_49 rfl ?_
      refine V_icmpge (tgt := 80) dX12_goesOn_50 (by decide) (by omega) (by omega) (fun br50 => ?_) (fun br50 => ?_)
      · omega
      · refine V_aload_n dX12_goesOn_53 rfl ?_
        refine V_bipush dX12_goesOn_54 (by decide) ?_
        refine V_aload_n dX12_goesOn_56 rfl ?_
        refine V_getfi dX12_goesOn_57 sf_RX12_194 rfl (sh hS rfl) ?_
        refine V_val (show _ = dg 0 (l.take i) from h22) ?_
        refine V_imul dX12_goesOn_60 ?_
        refine V_aload_n dX12_goesOn_61 rfl ?_
        refine V_getfr dX12_goesOn_62 sf_RX12_36 (by decide) (sh hS rfl) (rf hS rfl) ?_
        refine V_iload dX12_goesOn_65 rfl ?_
        refine V_iald dX12_goesOn_67 (sh hS rfl) (by omega) ?_
        refine V_val (show _ = ((l.getD i 0 : Nat) : Int) by rw [Int.toNat_natCast]; exact er) ?_
        refine V_iadd dX12_goesOn_68 ?_
        refine V_iconst dX12_goesOn_69 ?_
        refine V_iadd dX12_goesOn_70 ?_
        refine V_val (show 10 * dg 0 (l.take i) + ((l.getD i 0 : Nat) : Int) + 1 = dg 0 (l.take (i + 1)) by rw [et, dg_app, Int.mul_comm]) ?_
        refine V_puti dX12_goesOn_71 (sp_RX12_194 _) rfl (sh hS rfl) ?_
        refine V_iinc dX12_goesOn_74 rfl (by decide) rfl ?_
        refine V_goto (tgt := 47) dX12_goesOn_77 (by decide) ?_
        refine V_mask [true, false, false, true, false, false, true] ?_
        exact ih (i + 1) _ (by omega) (hm.on77 _ (by decide)) (hF.on77 _ (by decide)) hlt ((gG_ne _ _ (Or.inr (by decide))).trans h20) ((gG_ne _ _ (Or.inr (by decide))).trans h21) ((gG_ne _ _ (Or.inr (by decide))).trans h23) (gG_is _ _ _ _)
  refine V_iload dX12_goesOn_0 rfl ?_
  refine V_iconst dX12_goesOn_2 ?_
  refine V_iload_n dX12_goesOn_3 rfl ?_
  refine V_imul dX12_goesOn_4 ?_
  refine V_icmplt (tgt := 81) dX12_goesOn_5 (by decide) (by omega) (by omega) (fun br5 => ?_) (fun br5 => ?_)
  · omega
  · refine V_aload_n dX12_goesOn_8 rfl ?_
    refine V_dup dX12_goesOn_9 rfl ?_
    refine V_getfi dX12_goesOn_10 sf_RX12_185 rfl (sh hS rfl) ?_
    refine V_iconst dX12_goesOn_13 ?_
    refine V_iadd dX12_goesOn_14 ?_
    refine V_puti dX12_goesOn_15 (sp_RX12_185 _) rfl (sh hS rfl) ?_
    refine V_iload dX12_goesOn_18 rfl ?_
    refine V_aload_n dX12_goesOn_20 rfl ?_
    refine V_getfi dX12_goesOn_21 sf_RX12_188 rfl (sh hS rfl) ?_
    refine V_val (show _ = gG σ 77 21 from gG_ne _ _ (Or.inr (by decide))) ?_
    refine V_icmplt (tgt := 28) dX12_goesOn_24 (by decide) (by omega) (by omega) (fun br24 => ?_) (fun br24 => ?_)
    · refine V_aload_n dX12_goesOn_28 rfl ?_
      refine V_iload dX12_goesOn_29 rfl ?_
      refine V_puti dX12_goesOn_31 (sp_RX12_188 _) rfl (sh hS rfl) ?_
      refine V_aload_n dX12_goesOn_34 rfl ?_
      refine V_iload_n dX12_goesOn_35 rfl ?_
      refine V_puti dX12_goesOn_36 (sp_RX12_191 _) rfl (sh hS rfl) ?_
      refine V_aload_n dX12_goesOn_39 rfl ?_
      refine V_iconst dX12_goesOn_40 ?_
      refine V_puti dX12_goesOn_41 (sp_RX12_194 _) rfl (sh hS rfl) ?_
      refine V_iconst dX12_goesOn_44 ?_
      refine V_istore dX12_goesOn_45 (by decide) rfl ?_
      refine V_mask [true, false, false, true, false, false, true] ?_
      exact copy n 0 _ (Nat.zero_add _) (((((MS.rf _).on77 _ (by decide)).on77 _ (by decide)).on77 _ (by decide)).on77 _ (by decide)) (((((MH.rf _ _).on77 _ (by decide)).on77 _ (by decide)).on77 _ (by decide)).on77 _ (by decide)) br24 ((gG_ne _ _ (Or.inr (by decide))).trans ((gG_ne _ _ (Or.inr (by decide))).trans ((gG_ne _ _ (Or.inr (by decide))).trans (gG_is _ _ _ _)))) ((gG_ne _ _ (Or.inr (by decide))).trans ((gG_ne _ _ (Or.inr (by decide))).trans (gG_is _ _ _ _))) ((gG_ne _ _ (Or.inr (by decide))).trans (gG_is _ _ _ _)) (gG_is _ _ _ _)
    · refine V_vret dX12_goesOn_27 rfl (Nat.le_refl _) (Nat.le_refl _) ?_
      refine ⟨rfl, (MH.rf _ _).on77 _ (by decide), ?_, ?_, ?_, ?_⟩
      · rw [e2]; exact gG_is _ _ _ _
      · rw [e1, if_neg (by decide)]
        refine (gG_ne _ _ (Or.inr (by decide))).trans ?_
        omega
      · rw [e1, if_neg (fun z => by omega)]
        exact gG_ne _ _ (Or.inr (by decide))
      · rw [e1, if_neg (fun z => by omega)]
        exact gG_ne _ _ (Or.inr (by decide))