/-! items of trays -/
def xN (A : Ab) (X : Nat → Int64) : Ab := (aW A, aO A, aC A, aT A, aP A, aK A, aZ A, aI A, X)
theorem CL.items {σ : St} {A : Ab} (h : CL σ A) {p b c : Nat} (hp : p < 6) (h4 : 4 ≤ aP A p) (hb : gP σ 19 p = some b) (hc : gP σ b 1 = some c) {f X : Nat → Int64} (hin : ∀ i : Nat, (i : Int) < aZ A p → f i = X (30 * p + i)) (hout : ∀ q i, q < 6 → q ≠ p → i < 30 → X (30 * q + i) = aX A (30 * q + i)) : CL (setL σ c f) (xN A X) := by
  obtain ⟨c1, c2, c3, c4, c5, c6, c7, c8, c9, c10⟩ := h
  refine ⟨c1, c2, c3, c4, c5, c6, c7, c8, fun q hq => ?_, c10⟩
  rcases c9 q hq with ⟨x, y⟩ | ⟨x, d, y1, y2, y3, y4, y5, y6⟩ | ⟨x, d, y1, y2, y3, y4, y5⟩ | ⟨x, d, y1, y2, y3, y4⟩ | ⟨x, d, e, n, y1, y2, y3, y4, y5, y6, y7, y8, y9, y10⟩
  · exact Or.inl ⟨x, y⟩
  · exact Or.inr (Or.inl ⟨x, d, y1, y2, y3, y4, y5, y6⟩)
  · exact Or.inr (Or.inr (Or.inl ⟨x, d, y1, y2, y3, y4, y5⟩))
  · exact Or.inr (Or.inr (Or.inr (Or.inl ⟨x, d, y1, y2, y3, y4⟩)))
  · refine Or.inr (Or.inr (Or.inr (Or.inr ⟨x, d, e, n, y1, y2, y3, y4, y5, y6, y7, y8, y9, fun i hi => ?_⟩)))
    show up1 (gL σ) c f e i = X (30 * q + i)
    by_cases hqp : q = p
    · subst hqp
      have e1 : d = b := oinj (y1.symm.trans hb)
      subst e1
      have e2 : e = c := oinj (y5.symm.trans hc)
      subst e2
      rw [up1_is]
      exact hin i (by omega)
    · have hne := c10 q p d b hq hp hqp (by omega) h4 y1 hb
      have e2 : e ≠ c := fun z => hne (by rw [y5, hc, z])
      rw [up1_ne _ e2, hout q i hq hqp (by omega)]
      exact y10 i hi
theorem FM.onL {σ τ : St} (h : FM σ τ) {c : Nat} (f : Nat → Int64) (hc : c < 77 ∨ 93 ≤ c) : FM σ (setL τ c f) := fun a p q => ⟨(h a p q).1, (up1_ne _ (by omega) _).trans (h a p q).2⟩
/-- b is a tray: its sort, its row c of n items -/
def TY (σ : St) (b c n : Nat) (v : Int) : Prop := gl σ b = some (.inl 9) ∧ gG σ b 0 = v ∧ gP σ b 1 = some c ∧ gl σ c = some (.inr (1, n)) ∧ n ≤ 30
theorem c_hasItem (g : Gl) (σ : St) (b c n : Nat) (v : Int) (h : TY σ b c n v) (i : Int) (hi : inR i) : Ct g mX10_hasItem 0 0 0 [vq (some b), vi i] σ (rP (vi (bI (0 ≤ i ∧ i < n))) σ) := by
  refine Ct.of (by decide +kernel) (Nat.le_of_ble_eq_true rfl) ?_
  obtain ⟨y1, y2, y3, y4, y5⟩ := h
  refine V_iload_n dX10_hasItem_0 rfl ?_
  refine V_iflt (tgt := 17) dX10_hasItem_1 (by decide) (by omega) (fun br1 => ?_) (fun br1 => ?_)
  · refine V_iconst dX10_hasItem_17 ?_
    refine V_zret dX10_hasItem_18 rfl (Nat.le_refl _) (Nat.le_refl _) (by first | omega | exact bI_01 _) ?_
    first | exact rP_t (by omega) | exact rP_f (by omega)
  · refine V_iload_n dX10_hasItem_4 rfl ?_
    refine V_aload_n dX10_hasItem_5 rfl ?_
    refine V_getfr dX10_hasItem_6 sf_RX10_24 (by decide) y1 y3 ?_
    refine V_alen dX10_hasItem_9 y4 ?_
    refine V_icmpge (tgt := 17) dX10_hasItem_10 (by decide) (by omega) (by omega) (fun br10 => ?_) (fun br10 => ?_)
    · refine V_iconst dX10_hasItem_17 ?_
      refine V_zret dX10_hasItem_18 rfl (Nat.le_refl _) (Nat.le_refl _) (by first | omega | exact bI_01 _) ?_
      first | exact rP_t (by omega) | exact rP_f (by omega)
    · refine V_iconst dX10_hasItem_13 ?_
      refine V_goto (tgt := 18) dX10_hasItem_14 (by decide) ?_
      refine V_zret dX10_hasItem_18 rfl (Nat.le_refl _) (Nat.le_refl _) (by first | omega | exact bI_01 _) ?_
      first | exact rP_t (by omega) | exact rP_f (by omega)
theorem c_hasRun (g : Gl) (σ : St) (b c n : Nat) (v : Int) (h : TY σ b c n v) (i k : Int) (hi : inR i) (hk : inR k) : Ct g mX10_hasRun 0 0 0 [vq (some b), vi i, vi k] σ (rP (vi (bI (0 ≤ k ∧ 0 ≤ i ∧ i + k ≤ n))) σ) := by
  refine Ct.of (by decide +kernel) (Nat.le_of_ble_eq_true rfl) ?_
  obtain ⟨y1, y2, y3, y4, y5⟩ := h
  refine V_iload_n dX10_hasRun_0 rfl ?_
  refine V_iflt (tgt := 32) dX10_hasRun_1 (by decide) (by omega) (fun br1 => ?_) (fun br1 => ?_)
  · refine V_iconst dX10_hasRun_32 ?_
    refine V_zret dX10_hasRun_33 rfl (Nat.le_refl _) (Nat.le_refl _) (by first | omega | exact bI_01 _) ?_
    first | exact rP_t (by omega) | exact rP_f (by omega)
  · refine V_iload_n dX10_hasRun_4 rfl ?_
    refine V_aload_n dX10_hasRun_5 rfl ?_
    refine V_getfr dX10_hasRun_6 sf_RX10_24 (by decide) y1 y3 ?_
    refine V_alen dX10_hasRun_9 y4 ?_
    refine V_icmpgt (tgt := 32) dX10_hasRun_10 (by decide) (by omega) (by omega) (fun br10 => ?_) (fun br10 => ?_)
    · refine V_iconst dX10_hasRun_32 ?_
      refine V_zret dX10_hasRun_33 rfl (Nat.le_refl _) (Nat.le_refl _) (by first | omega | exact bI_01 _) ?_
      first | exact rP_t (by omega) | exact rP_f (by omega)
    · refine V_iload_n dX10_hasRun_13 rfl ?_
      refine V_iflt (tgt := 32) dX10_hasRun_14 (by decide) (by omega) (fun br14 => ?_) (fun br14 => ?_)
      · refine V_iconst dX10_hasRun_32 ?_
        refine V_zret dX10_hasRun_33 rfl (Nat.le_refl _) (Nat.le_refl _) (by first | omega | exact bI_01 _) ?_
        first | exact rP_t (by omega) | exact rP_f (by omega)
      · refine V_iload_n dX10_hasRun_17 rfl ?_
        refine V_aload_n dX10_hasRun_18 rfl ?_
        refine V_getfr dX10_hasRun_19 sf_RX10_24 (by decide) y1 y3 ?_
        refine V_alen dX10_hasRun_22 y4 ?_
        refine V_iload_n dX10_hasRun_23 rfl ?_
        refine V_isub dX10_hasRun_24 ?_
        refine V_icmpgt (tgt := 32) dX10_hasRun_25 (by decide) (by omega) (by omega) (fun br25 => ?_) (fun br25 => ?_)
        · refine V_iconst dX10_hasRun_32 ?_
          refine V_zret dX10_hasRun_33 rfl (Nat.le_refl _) (Nat.le_refl _) (by first | omega | exact bI_01 _) ?_
          first | exact rP_t (by omega) | exact rP_f (by omega)
        · refine V_iconst dX10_hasRun_28 ?_
          refine V_goto (tgt := 33) dX10_hasRun_29 (by decide) ?_
          refine V_zret dX10_hasRun_33 rfl (Nat.le_refl _) (Nat.le_refl _) (by first | omega | exact bI_01 _) ?_
          first | exact rP_t (by omega) | exact rP_f (by omega)
/-- what is laid on a tray of bytes, of longs -/
def bL (x : Int64) : Int64 := (iI ((iI (x.toInt32.toInt)).toInt8.toInt32.toInt)).toInt64
def lyV (v : Int) (x : Int64) : Int64 := if v = 0 then bL x else x
theorem c_lay (g : Gl) (σ : St) (b c n : Nat) (v : Int) (h : TY σ b c n v) (hv : inR v) (i : Int) (x : Int64) (hi : 0 ≤ i ∧ i < n) : Ct g mX10_lay 1 0 0 [vq (some b), vi i, vl x] σ (rV (setL σ c (up1 (gL σ c) i.toNat (lyV v x)))) := by
  refine Ct.of (by decide +kernel) (Nat.le_of_ble_eq_true rfl) ?_
  obtain ⟨y1, y2, y3, y4, y5⟩ := h
  refine V_aload_n dX10_lay_0 rfl ?_
  refine V_iload_n dX10_lay_1 rfl ?_
  refine V_callV dX10_lay_2 (c_hasItem g _ b c n v ⟨y1, y2, y3, y4, y5⟩ i (by omega)) sv_RX10_28 y1 rfl ⟨⟨by decide, by decide⟩, ⟨by decide, by decide⟩⟩ (Nat.le_of_ble_eq_true rfl) (fun r2 s2 p2 => ?_)
  obtain ⟨rfl, rfl⟩ := p2
  refine V_ifeqB (tgt := 29) dX10_lay_5 (by decide) (fun br5 => ?_) (fun br5 => ?_)
  · exact absurd hi br5
  · refine V_aload_n dX10_lay_8 rfl ?_
    refine V_getfr dX10_lay_9 sf_RX10_24 (by decide) y1 y3 ?_
    refine V_iload_n dX10_lay_12 rfl ?_
    refine V_aload_n dX10_lay_13 rfl ?_
    refine V_getfi dX10_lay_14 sf_RX10_9 rfl y1 ?_
    refine V_val (show _ = v from y2) ?_
    refine V_ifne (tgt := 27) dX10_lay_17 (by decide) (by omega) (fun br17 => ?_) (fun br17 => ?_)
    · refine V_lload_n dX10_lay_27 rfl ?_
      refine V_last dX10_lay_28 y4 (by omega) ?_
      refine V_vret dX10_lay_29 rfl (Nat.le_refl _) (Nat.le_refl _) ?_
      have e : lyV v x = _ := (by unfold lyV; first | exact if_pos (by omega) | exact if_neg (by omega))
      exact ⟨rfl, by rw [e] <;> rfl⟩
    · refine V_lload_n dX10_lay_20 rfl ?_
      refine V_l2i dX10_lay_21 ?_
      refine V_i2b dX10_lay_22 ?_
      refine V_i2l dX10_lay_23 ?_
      refine V_goto (tgt := 28) dX10_lay_24 (by decide) ?_
      refine V_last dX10_lay_28 y4 (by omega) ?_
      refine V_vret dX10_lay_29 rfl (Nat.le_refl _) (Nat.le_refl _) ?_
      have e : lyV v x = _ := (by unfold lyV; first | exact if_pos (by omega) | exact if_neg (by omega))
      exact ⟨rfl, by rw [e] <;> rfl⟩
def putV (A : Ab) (peg i : Int) : Int := if (0 ≤ peg ∧ peg ≤ 5) ∧ 4 ≤ aP A peg.toNat then (if 0 ≤ i ∧ i < aZ A peg.toNat then 1 else -12) else lackA A peg
def putN (A : Ab) (peg i : Int) (x : Int64) : Ab := if ((0 ≤ peg ∧ peg ≤ 5) ∧ 4 ≤ aP A peg.toNat) ∧ (0 ≤ i ∧ i < aZ A peg.toNat) then xN A (up1 (aX A) (30 * peg.toNat + i.toNat) (lyV (aP A peg.toNat - 4) x)) else A
theorem c_put (g : Gl) (σ : St) (A : Ab) (N : Nat) (hC : CL σ A) (hA : AI A N) (peg i : Int) (x : Int64) (h1 : inR peg) (h2 : inR i) : Ct g mX11_put 3 0 0 [vq (some 8), vi peg, vi i, vl x] σ (PC (putV A peg i) (putN A peg i x) σ) := by
  refine Ct.of (by decide +kernel) (Nat.le_of_ble_eq_true rfl) ?_
  have hS := hC.1
  by_cases hq : (0 ≤ peg ∧ peg ≤ 5) ∧ 4 ≤ aP A peg.toNat
  · obtain ⟨x45, b, c, n, y1, y2, y3, y4, y5, y6, y7, y8, y9, y10⟩ := (hC.2.2.2.2.2.2.2.2.1 peg.toNat (by omega)).tray hq.2
    have hT : TY σ b c n (aP A peg.toNat - 4) := ⟨y3, y4, y5, y7, y9⟩
    refine V_aload_n dX11_put_0 rfl ?_
    refine V_iload_n dX11_put_1 rfl ?_
    refine V_callV dX11_put_2 (c_trayAt g _ hS peg hq.1 b y1 y3) sv_RX11_328 (sh hS rfl) rfl ⟨⟨by decide, by decide⟩, ⟨by decide, by decide⟩⟩ (Nat.le_of_ble_eq_true rfl) (fun r2 s2 p2 => ?_)
    obtain ⟨rfl, rfl⟩ := p2
    refine V_astore dX11_put_5 (by decide) rfl ?_
    refine V_aload dX11_put_7 rfl ?_
    refine V_ifnonnull (tgt := 18) dX11_put_9 (by decide) (fun a9 br9 => ?_) (fun br9 => ?_)
    · refine V_aload dX11_put_18 rfl ?_
      refine V_iload_n dX11_put_20 rfl ?_
      refine V_callV dX11_put_21 (c_hasItem g _ b c n _ hT i h2) sv_RX11_335 y3 rfl ⟨⟨by decide, by decide⟩, ⟨by decide, by decide⟩⟩ (Nat.le_of_ble_eq_true rfl) (fun r21 s21 p21 => ?_)
      obtain ⟨rfl, rfl⟩ := p21
      refine V_ifneB (tgt := 30) dX11_put_24 (by decide) (fun br24 => ?_) (fun br24 => ?_)
      · refine V_aload dX11_put_30 rfl ?_
        refine V_iload_n dX11_put_32 rfl ?_
        refine V_lload_n dX11_put_33 rfl ?_
        refine V_callV dX11_put_34 (c_lay g _ b c n _ hT (by omega) i x br24) sv_RX11_338 y3 rfl ⟨⟨by decide, by decide⟩, ⟨by decide, by decide⟩⟩ (Nat.le_of_ble_eq_true rfl) (fun r34 s34 p34 => ?_)
        obtain ⟨rfl, rfl⟩ := p34
        refine V_iconst dX11_put_37 ?_
        refine V_iret dX11_put_38 rfl (Nat.le_refl _) (Nat.le_refl _) ?_
        unfold putV putN
        rw [if_pos hq, if_pos (show 0 ≤ i ∧ i < aZ A peg.toNat by omega), if_pos ⟨hq, by omega⟩]
        refine PC_i rfl (hC.items (by omega) hq.2 y1 y5 (fun j hj => ?_) (fun q j hq2 hqp hj => up1_ne _ (by omega) _)) ((FM.rf _).onL _ (by omega))
        by_cases e : j = i.toNat
        · subst e; rw [up1_is, up1_is]
        · rw [up1_ne _ e, up1_ne _ (by omega)]
          exact y10 j (by omega)
      · refine V_bipush dX11_put_27 (by decide) ?_
        refine V_iret dX11_put_29 rfl (Nat.le_refl _) (Nat.le_refl _) ?_
        unfold putV putN
        rw [if_pos hq, if_neg (show ¬ (0 ≤ i ∧ i < aZ A peg.toNat) by omega), if_neg (fun z => by omega)]
        exact PC_i rfl hC (FM.rf _)
    · cases br9
  · refine V_aload_n dX11_put_0 rfl ?_
    refine V_iload_n dX11_put_1 rfl ?_
    refine V_callV dX11_put_2 (c_trayNo g _ A hC peg h1 hq) sv_RX11_328 (sh hS rfl) rfl ⟨⟨by decide, by decide⟩, ⟨by decide, by decide⟩⟩ (Nat.le_of_ble_eq_true rfl) (fun r2 s2 p2 => ?_)
    obtain ⟨rfl, rfl⟩ := p2
    refine V_astore dX11_put_5 (by decide) rfl ?_
    refine V_aload dX11_put_7 rfl ?_
    refine V_ifnonnull (tgt := 18) dX11_put_9 (by decide) (fun a9 br9 => ?_) (fun br9 => ?_)
    · cases br9
    · refine V_aload_n dX11_put_12 rfl ?_
      refine V_iload_n dX11_put_13 rfl ?_
      refine V_callV dX11_put_14 (c_lackOfTray g _ A hC peg h1) sv_RX11_332 (sh hS rfl) rfl ⟨⟨by decide, by decide⟩, ⟨by decide, by decide⟩⟩ (Nat.le_of_ble_eq_true rfl) (fun r14 s14 p14 => ?_)
      obtain ⟨rfl, rfl⟩ := p14
      refine V_iret dX11_put_17 rfl (Nat.le_refl _) (Nat.le_refl _) ?_
      unfold putV putN
      rw [if_neg hq, if_neg (fun z => hq z.1)]
      exact PC_i rfl hC (FM.rf _)
def getA (A : Ab) (peg i : Int) : Int64 := if ((0 ≤ peg ∧ peg ≤ 5) ∧ 4 ≤ aP A peg.toNat) ∧ (0 ≤ i ∧ i < aZ A peg.toNat) then aX A (30 * peg.toNat + i.toNat) else Int64.ofInt (-9223372036854775808)
theorem c_get (g : Gl) (σ : St) (A : Ab) (N : Nat) (hC : CL σ A) (hA : AI A N) (peg i : Int) (h1 : inR peg) (h2 : inR i) : Ct g mX11_get 3 0 0 [vq (some 8), vi peg, vi i] σ (rP (vl (getA A peg i)) σ) := by
  refine Ct.of (by decide +kernel) (Nat.le_of_ble_eq_true rfl) ?_
  have hS := hC.1
  by_cases hq : (0 ≤ peg ∧ peg ≤ 5) ∧ 4 ≤ aP A peg.toNat
  · obtain ⟨x45, b, c, n, y1, y2, y3, y4, y5, y6, y7, y8, y9, y10⟩ := (hC.2.2.2.2.2.2.2.2.1 peg.toNat (by omega)).tray hq.2
    have hT : TY σ b c n (aP A peg.toNat - 4) := ⟨y3, y4, y5, y7, y9⟩
    refine V_aload_n dX11_get_0 rfl ?_
    refine V_iload_n dX11_get_1 rfl ?_
    refine V_callV dX11_get_2 (c_trayAt g _ hS peg hq.1 b y1 y3) sv_RX11_328 (sh hS rfl) rfl ⟨⟨by decide, by decide⟩, ⟨by decide, by decide⟩⟩ (Nat.le_of_ble_eq_true rfl) (fun r2 s2 p2 => ?_)
    obtain ⟨rfl, rfl⟩ := p2
    refine V_astore_n dX11_get_5 (by decide) rfl ?_
    refine V_aload_n dX11_get_6 rfl ?_
    refine V_ifnull (tgt := 27) dX11_get_7 (by decide) (fun br7 => ?_) (fun a7 br7 => ?_)
    · cases br7
    · refine V_aload_n dX11_get_10 rfl ?_
      refine V_iload_n dX11_get_11 rfl ?_
      refine V_callV dX11_get_12 (c_hasItem g _ b c n _ hT i h2) sv_RX11_335 y3 rfl ⟨⟨by decide, by decide⟩, ⟨by decide, by decide⟩⟩ (Nat.le_of_ble_eq_true rfl) (fun r12 s12 p12 => ?_)
      obtain ⟨rfl, rfl⟩ := p12
      refine V_ifeqB (tgt := 27) dX11_get_15 (by decide) (fun br15 => ?_) (fun br15 => ?_)
      · refine V_ldc2 dX11_get_27 sk_RX11_346 ?_
        refine V_lret dX11_get_30 rfl (Nat.le_refl _) (Nat.le_refl _) ?_
        unfold getA
        first
          | (rw [if_pos ⟨hq, by omega⟩]; exact ⟨congrArg (fun z => some (vl z)) (y10 i.toNat (by omega)), rfl⟩)
          | (rw [if_neg (fun z => br15 (by omega))]; exact ⟨rfl, rfl⟩)
      · refine V_aload_n dX11_get_18 rfl ?_
        refine V_getfr dX11_get_19 sf_RX11_342 (by decide) y3 y5 ?_
        refine V_iload_n dX11_get_22 rfl ?_
        refine V_lald dX11_get_23 y7 (by omega) ?_
        refine V_goto (tgt := 30) dX11_get_24 (by decide) ?_
        refine V_lret dX11_get_30 rfl (Nat.le_refl _) (Nat.le_refl _) ?_
        unfold getA
        first
          | (rw [if_pos ⟨hq, by omega⟩]; exact ⟨congrArg (fun z => some (vl z)) (y10 i.toNat (by omega)), rfl⟩)
          | (rw [if_neg (fun z => br15 (by omega))]; exact ⟨rfl, rfl⟩)
  · refine V_aload_n dX11_get_0 rfl ?_
    refine V_iload_n dX11_get_1 rfl ?_
    refine V_callV dX11_get_2 (c_trayNo g _ A hC peg h1 hq) sv_RX11_328 (sh hS rfl) rfl ⟨⟨by decide, by decide⟩, ⟨by decide, by decide⟩⟩ (Nat.le_of_ble_eq_true rfl) (fun r2 s2 p2 => ?_)
    obtain ⟨rfl, rfl⟩ := p2
    refine V_astore_n dX11_get_5 (by decide) rfl ?_
    refine V_aload_n dX11_get_6 rfl ?_
    refine V_ifnull (tgt := 27) dX11_get_7 (by decide) (fun br7 => ?_) (fun a7 br7 => ?_)
    · refine V_ldc2 dX11_get_27 sk_RX11_346 ?_
      refine V_lret dX11_get_30 rfl (Nat.le_refl _) (Nat.le_refl _) ?_
      unfold getA
      rw [if_neg (fun z => hq z.1)]
      exact ⟨rfl, rfl⟩
    · cases br7