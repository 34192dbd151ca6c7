/-! the ring bench: the least ring laid -/
theorem drop_cons {l : List Nat} {k a : Nat} {t : List Nat} (h : l.drop k = a :: t) : l.getD k 0 = a ∧ l.drop (k + 1) = t := by
  constructor
  · have : (l.drop k)[0]? = some a := by rw [h]; rfl
    rw [List.getElem?_drop, Nat.add_zero] at this
    rw [List.getD_eq_getElem?_getD, this]; rfl
  · rw [← List.drop_drop, h]; rfl
/-- a ring's places, from the least set on -/
def ringP (w : Nat → Int) (s : Nat) (p : Int) : List Nat := 0 :: ar (cpl w s p) 0 (szW w s - 1) (mem (2 ^ szW w s - 2) (szW w s)) 0
theorem ringP_map {w : Nat → Int} (hW : WF w) {s : Nat} {p : Int} (hp : 0 ≤ p) (h8 : szW w s ≤ 8) : (ringP w s p).map (atW w s) = ringW w s p := by
  unfold ringP ringW
  rw [List.map_cons, ← tl_map h8]
  congr 1
  exact (ar_map (cst_ok hW hp) (h := atW w s) (f := 0) (szW w s - 1) _ 0 at_inj' (mem_nodup _ _) (all_len h8) (by omega)).symm
theorem ringW_len {w : Nat → Int} {s : Nat} {p : Int} (h1 : 1 ≤ szW w s) : (ringW w s p).length = szW w s := by
  unfold ringW
  rw [List.length_cons, ar_len]
  omega
theorem ringW_in {w : Nat → Int} (hW : WF w) {s : Nat} {p : Int} (hp : 0 ≤ p) (h8 : szW w s ≤ 8) (h1 : 1 ≤ szW w s) {k : Nat} (hk : k < szW w s) : (ringW w s p).getD k 0 < nS w := by
  have hl := ringW_len (w := w) (s := s) (p := p) h1
  have hm : (ringW w s p).getD k 0 ∈ ringW w s p := by
    rw [List.getD_eq_getElem?_getD, List.getElem?_eq_getElem (by omega)]
    exact List.getElem_mem _
  unfold ringW at hm
  rcases List.mem_cons.mp hm with e | e
  · unfold ringW; rw [e]; exact (mAt_in (s := s) (n := nS w) (k := 0) h1).1
  · have h2 := ar_in (cst_ok hW hp) (hdW w s) (szW w s - 1) (tlW w s) (hdW w s) (List.Pairwise.sublist (List.tail_sublist _) (mem_nodup _ _)) (by unfold tlW; rw [List.length_tail]; rfl) (by omega) _ e
    exact (mem_in.mp (List.mem_of_mem_tail h2)).1
def nxtI (sz j : Nat) : Nat := if j + 1 < sz then j + 1 else 0
/-- a ring of sz staves lies in the bench, its gaps measured -/
def LR (τ : St) (w : Nat → Int) (sz : Nat) (o : Nat → Nat) : Prop := gG τ 55 5 = (sz : Int) ∧ ∀ j, j < sz → gG τ 57 j = (o j : Int) ∧ o j < nS w ∧ gG τ 58 j = gapW w (o j) (o (nxtI sz j))
set_option maxHeartbeats 2000000 in
theorem c_layLeast (g : Gl) (σ : St) (w : Nat → Int) (hX : XS σ w) (hz : Z0 σ) (s : Nat) (hs : s < 512) (p : Int) (hp : 0 ≤ p ∧ p ≤ 99) (h8 : szW w s ≤ 8) (h1 : 1 ≤ szW w s) : Ct g mX4_layLeast 5 0 0 [vq (some 55), vq (some 9), vi (s : Int), vi p] σ (fun r τ => r = none ∧ XK σ τ ∧ LR τ w (szW w s) (fun j => (ringW w s p).getD j 0)) := by
  refine Ct.of (by decide +kernel) (Nat.le_of_ble_eq_true rfl) ?_
  have hS := hX.1
  have hp2 := pw2 h1
  have hp3 : 2 ^ szW w s ≤ 2 ^ 8 := pw_le h8
  have hW := hX.2.2
  have hmap := ringP_map hW (p := p) hp.1 h8
  have hlenP : (ringP w s p).length = szW w s := by
    unfold ringP
    rw [List.length_cons, ar_len]
    omega
  have ring_at : ∀ k, k < szW w s → (ringW w s p).getD k 0 = atW w s ((ringP w s p).getD k 0) := fun k hk => by
    rw [← hmap, List.getD_eq_getElem?_getD, List.getElem?_map, List.getElem?_eq_getElem (by omega), List.getD_eq_getElem?_getD, List.getElem?_eq_getElem (by omega)]
    rfl
  have loop : ∀ (m k M x : Nat) (τ : St), szW w s - k < m → 1 ≤ k → k ≤ szW w s → XK σ τ → CH τ w s p → TB false τ w s p (2 ^ szW w s) → M < 2 ^ szW w s → M % 2 = 0 → x < szW w s → ¬ M.testBit x = true → (mem M (szW w s)).length = szW w s - k → (ringP w s p).drop k = ar (cpl w s p) 0 (szW w s - k) (mem M (szW w s)) x → (∀ j, j < k → gG τ 57 j = ((ringW w s p).getD j 0 : Int)) →
      V g mX4_layLeast (rmD 5 0 0) (QM g 0 0 (fun r τ => r = none ∧ XK σ τ ∧ LR τ w (szW w s) (fun j => (ringW w s p).getD j 0))) 36 [some (vq (some 55)), some (vq (some 9)), none, none, some (vi (M : Int)), some (vi (x : Int)), some (vi (k : Int)), none] [] 0 0 τ := by
    intro m
    induction m with
    | zero => intro k M x τ hm; omega
    | succ m ih =>
      intro k M x τ hm hk1 hk hK hC hT hM hM2 hx hxM hlen hdr hord
      have hX1 := hK.xs hX
      have hS := hX1.1
      have c1 := hC.1
      refine V_iload dX4_layLeast_36 rfl ?_
      refine V_aload_n dX4_layLeast_38 rfl ?_
      refine V_getfi dX4_layLeast_39 sf_RX4_39 rfl (sh hS rfl) ?_
      refine V_icmpge (tgt := 90) dX4_layLeast_42 (by decide) (by omega) (by omega) (fun br42 => ?_) (fun br42 => ?_)
      · have hkk : k = szW w s := by omega
        subst hkk
        refine V_aload_n dX4_layLeast_90 rfl ?_
        refine V_aload_n dX4_layLeast_91 rfl ?_
        refine V_callV dX4_layLeast_92 (c_measureGaps g _ w hX1 (szW w s) c1 h8 (fun j => (ringW w s p).getD j 0) (fun j hj => ⟨hord j hj, ringW_in hW hp.1 h8 h1 hj⟩)) sv_RX4_42 (sh hS rfl) rfl ⟨⟨by decide, by decide⟩, ⟨by decide, by decide⟩⟩ (Nat.le_of_ble_eq_true rfl) (fun r92 s92 p92 => ?_)
        obtain ⟨rfl, f, rfl, hf⟩ := p92
        refine V_vret dX4_layLeast_95 rfl (Nat.le_refl _) (Nat.le_refl _) ?_
        exact ⟨rfl, hK.onA (by decide) (Or.inl (by decide)), c1, fun j hj => ⟨hord j hj, ringW_in hW hp.1 h8 h1 hj, hf j hj⟩⟩
      · have hkl : k < szW w s := by omega
        obtain ⟨K, hKe⟩ : ∃ K, szW w s - k = K + 1 := ⟨szW w s - k - 1, by omega⟩
        have hc := cpl_ok hW s hp.1
        have hok := nxt_ok hc 0 K (mem M (szW w s)) x (mem_nodup _ _) (by omega) (by omega)
        have hin := mem_in.mp hok.1
        rw [hKe] at hdr
        have hdc := drop_cons hdr
        have hM5 : M < 512 := by omega
        have hbits := bits_all M hM5 _ (by omega) hin.2
        have hge := hbits.2.1
        have hn1 : 1 ≤ nxt (cpl w s p) 0 K (mem M (szW w s)) x := by
          rcases Nat.eq_zero_or_pos (nxt (cpl w s p) 0 K (mem M (szW w s)) x) with h | h
          · have h2 := hin.2
            rw [h, Nat.testBit_zero] at h2
            simp at h2
            omega
          · exact h
        refine V_aload_n dX4_layLeast_45 rfl ?_
        refine V_iload dX4_layLeast_46 rfl ?_
        refine V_iload dX4_layLeast_48 rfl ?_
        refine V_callV dX4_layLeast_50 (c_firstOfLeast g _ w hX1 s p hp h8 hC hT M x K hM hM2 hx hxM (by omega)) sv_RX4_58 (sh hS rfl) rfl ⟨⟨by decide, by decide⟩, ⟨by decide, by decide⟩⟩ (Nat.le_of_ble_eq_true rfl) (fun r50 s50 p50 => ?_)
        obtain ⟨rfl, rfl⟩ := p50
        refine V_istore dX4_layLeast_53 (by decide) rfl ?_
        refine V_aload_n dX4_layLeast_55 rfl ?_
        refine V_getfr dX4_layLeast_56 sf_RX4_15 (by decide) (sh hS rfl) (rf hS rfl) ?_
        refine V_iload dX4_layLeast_59 rfl ?_
        refine V_aload_n dX4_layLeast_61 rfl ?_
        refine V_getfr dX4_layLeast_62 sf_RX4_9 (by decide) (sh hS rfl) (rf hS rfl) ?_
        refine V_iload dX4_layLeast_65 rfl ?_
        refine V_iald dX4_layLeast_67 (sh hS rfl) (by omega) ?_
        refine V_iast dX4_layLeast_68 (sh hS rfl) (by omega) ?_
        refine V_iload dX4_layLeast_69 rfl ?_
        refine V_iconst dX4_layLeast_71 ?_
        refine V_iload dX4_layLeast_72 rfl ?_
        refine V_ishl dX4_layLeast_74 (by omega) ?_
        refine V_iconst dX4_layLeast_75 ?_
        refine V_inot dX4_layLeast_76 ?_
        refine V_iand dX4_layLeast_77 ?_
        refine V_val (show _ = _ from (clr_of (s := (M : Int)) (i := (nxt (cpl w s p) 0 K (mem M (szW w s)) x : Int)) (by omega) (by omega) (by omega) (by omega)).trans (clr_nat hM5 (by omega) hin.2)) ?_
        refine V_istore dX4_layLeast_78 (by decide) rfl ?_
        refine V_iload dX4_layLeast_80 rfl ?_
        refine V_istore dX4_layLeast_82 (by decide) rfl ?_
        skip
        refine V_iinc dX4_layLeast_84 rfl (by decide) rfl ?_
        refine V_goto (tgt := 36) dX4_layLeast_87 (by decide) ?_
        refine V_mask [true, true, false, false, true, true, true, false] ?_
        refine ih (k + 1) (M - 2 ^ nxt (cpl w s p) 0 K (mem M (szW w s)) x) (nxt (cpl w s p) 0 K (mem M (szW w s)) x) _ (by omega) (by omega) (by omega) (hK.onG (by decide) (by decide)) (hC.onG h8 (Or.inl rfl)) (fun M' x' a1 a2 a3 a4 a5 => ?_) (Nat.lt_of_le_of_lt (Nat.sub_le _ _) hM) (by rw [hbits.2.2 hn1]; exact hM2) hin.1 (by rw [hbits.1 _ (by omega)]; simp) ?_ ?_ (fun j hj => ?_)
        · rw [gG_ne _ _ (Or.inl (by decide))]
          exact hT M' x' a1 a2 a3 a4 a5
        · rw [mem_clr hM5 (by omega) (by omega) hin.2]
          have := drp_len (mem_nodup M (szW w s)) hok.1
          omega
        · rw [hdc.2, mem_clr hM5 (by omega) (by omega) hin.2, show szW w s - (k + 1) = K by omega]
        · rw [Int.toNat_natCast]
          by_cases e : j = k
          · subst e
            rw [gG_is, Int.toNat_natCast, hC.2.1 _ hin.1, ring_at _ hkl, hdc.1]
          · rw [gG_ne _ _ (Or.inr e)]
            exact hord j (by omega)
  refine V_aload_n dX4_layLeast_0 rfl ?_
  refine V_aload_n dX4_layLeast_1 rfl ?_
  refine V_iload_n dX4_layLeast_2 rfl ?_
  refine V_iload_n dX4_layLeast_3 rfl ?_
  refine V_callV dX4_layLeast_4 (c_choose g _ w hX hz s hs p hp h8) sv_RX4_46 (sh hS rfl) rfl ⟨⟨by decide, by decide⟩, ⟨by decide, by decide⟩⟩ (Nat.le_of_ble_eq_true rfl) (fun r4 s4 p4 => ?_)
  obtain ⟨rfl, hK, hC⟩ := p4
  have hX1 := hK.xs hX
  have hS := hX1.1
  refine V_aload_n dX4_layLeast_7 rfl ?_
  refine V_iconst dX4_layLeast_8 ?_
  refine V_callV dX4_layLeast_9 (c_weigh g _ w hX1 hK.2.2.2.2.2 s p hp h8 h1 hC false) sv_RX4_50 (sh hS rfl) rfl ⟨⟨by decide, by decide⟩, ⟨by decide, by decide⟩⟩ (Nat.le_of_ble_eq_true rfl) (fun r9 s9 p9 => ?_)
  obtain ⟨rfl, hK2, hC2, hT⟩ := p9
  have hX2 := hK2.xs hX1
  have hS := hX2.1
  refine V_aload_n dX4_layLeast_12 rfl ?_
  refine V_callV dX4_layLeast_13 (c_allButFirst g _ hS (szW w s) hC2.1 h8) sv_RX4_54 (sh hS rfl) rfl ⟨⟨by decide, by decide⟩, ⟨by decide, by decide⟩⟩ (Nat.le_of_ble_eq_true rfl) (fun r13 s13 p13 => ?_)
  obtain ⟨rfl, rfl⟩ := p13
  refine V_val (show _ = ((2 ^ szW w s - 2 : Nat) : Int) by omega) ?_
  refine V_istore dX4_layLeast_16 (by decide) rfl ?_
  refine V_iconst dX4_layLeast_18 ?_
  refine V_istore dX4_layLeast_19 (by decide) rfl ?_
  refine V_aload_n dX4_layLeast_21 rfl ?_
  refine V_getfr dX4_layLeast_22 sf_RX4_15 (by decide) (sh hS rfl) (rf hS rfl) ?_
  refine V_iconst dX4_layLeast_25 ?_
  refine V_aload_n dX4_layLeast_26 rfl ?_
  refine V_getfr dX4_layLeast_27 sf_RX4_9 (by decide) (sh hS rfl) (rf hS rfl) ?_
  refine V_iconst dX4_layLeast_30 ?_
  refine V_iald dX4_layLeast_31 (sh hS rfl) (by omega) ?_
  refine V_iast dX4_layLeast_32 (sh hS rfl) (by omega) ?_
  refine V_iconst dX4_layLeast_33 ?_
  refine V_istore dX4_layLeast_34 (by decide) rfl ?_
  refine V_mask [true, true, false, false, true, true, true, false] ?_
  refine loop _ 1 (2 ^ szW w s - 2) 0 _ (Nat.lt_succ_self _) (Nat.le_refl _) h1 ((hK.tr hK2).onG (by decide) (by decide)) (hC2.onG h8 (Or.inl rfl)) (fun M' x' a1 a2 a3 a4 a5 => ?_) (by omega) hp2.1 (by omega) (by rw [(all_mem _ (by omega)).2 h1]; decide) (all_len h8) rfl (fun j hj => ?_)
  · rw [gG_ne _ _ (Or.inl (by decide))]
    exact hT M' x' a1 a2 a3 a4 a5
  · have hj0 : j = 0 := by omega
    subst hj0
    rw [show (0 : Int).toNat = 0 from rfl, gG_is, hC2.2.1 0 h1]
    rfl