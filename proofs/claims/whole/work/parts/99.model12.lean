/-! the model's questions about rings -/
/-- of the model scratch alone has changed -/
def MS (σ τ : St) : Prop := (gl τ = gl σ ∧ gn τ = gn σ ∧ gP τ = gP σ) ∧ (∀ a, a ≠ 92 → gL τ a = gL σ a) ∧ (∀ a, (a < 77 ∨ a = 78 ∨ a = 79 ∨ a = 81 ∨ 86 < a) → gG τ a = gG σ a) ∧ ∀ j, 3 ≤ j ∧ j ≤ 6 → gG τ 77 j = gG σ 77 j
theorem MS.rf (σ : St) : MS σ σ := ⟨⟨rfl, rfl, rfl⟩, fun _ _ => rfl, fun _ _ => rfl, fun _ _ => rfl⟩
theorem MS.tr {σ τ υ : St} (h : MS σ τ) (h2 : MS τ υ) : MS σ υ := ⟨⟨h2.1.1.trans h.1.1, h2.1.2.1.trans h.1.2.1, h2.1.2.2.trans h.1.2.2⟩, fun a p => (h2.2.1 a p).trans (h.2.1 a p), fun a p => (h2.2.2.1 a p).trans (h.2.2.1 a p), fun j p => (h2.2.2.2 j p).trans (h.2.2.2 j p)⟩
theorem MS.on77 {σ τ : St} (h : MS σ τ) {k : Nat} (v : Int) (hk : k < 3 ∨ 6 < k) : MS σ (setG τ 77 k v) := ⟨h.1, h.2.1, fun a p => (up1_ne _ (by omega) _).trans (h.2.2.1 a p), fun j p => (gG_ne _ _ (Or.inr (by omega))).trans (h.2.2.2 j p)⟩
theorem MS.on {σ τ : St} (h : MS σ τ) {c : Nat} (k : Nat) (v : Int) (hc : c = 80 ∨ c = 82 ∨ c = 83 ∨ c = 84 ∨ c = 85 ∨ c = 86) : MS σ (setG τ c k v) := ⟨h.1, h.2.1, fun a p => (up1_ne _ (by omega) _).trans (h.2.2.1 a p), fun j p => (gG_ne _ _ (Or.inl (by omega))).trans (h.2.2.2 j p)⟩
theorem MF.ms {n : Nat} {σ τ : St} (h : MF n σ τ) : MS σ τ := ⟨⟨h.1.1, h.1.2.1, h.1.2.2.2⟩, fun a _ => by rw [h.1.2.2.1], fun a p => h.2.1 a (by omega) (by omega) (by omega), fun j p => h.2.2.1 j (by omega) (by omega) (by omega)⟩
theorem MS.std {σ τ : St} (h : MS σ τ) (hS : Std σ) : Std τ := ⟨by rw [h.1.2.1]; exact hS.1, by rw [h.1.1]; exact hS.2.1, by rw [h.1.2.2]; exact hS.2.2⟩
theorem MS.mx {σ τ : St} (h : MS σ τ) {w : Nat → Int} (hX : MX σ w) : MX τ w := ⟨h.std hX.1, by rw [h.2.2.1 78 (by decide)]; exact hX.2.1, hX.2.2⟩
theorem MS.fc {σ τ : St} (h : MS σ τ) : FC σ τ := ⟨h.1.1, h.1.2.1, h.1.2.2, fun a ha => ⟨h.2.2.1 a (by omega), h.2.1 a (by omega)⟩⟩
theorem MS.mr {σ τ : St} {A : Ab} (h : MS σ τ) (hM : MR σ A) : MR τ A := by
  obtain ⟨hS, ⟨m78, m79⟩, ⟨m3, m4, m5, m6⟩, m81, ⟨m87, m88, m89, m90⟩, m91⟩ := hM
  have f := h.2.2.1
  have q := h.2.2.2
  exact ⟨h.std hS, ⟨by rw [f 78 (by decide)]; exact m78, by rw [f 79 (by decide)]; exact m79⟩, ⟨(q 3 (by decide)).trans m3, (q 4 (by decide)).trans m4, (q 5 (by decide)).trans m5, (q 6 (by decide)).trans m6⟩, by rw [f 81 (by decide)]; exact m81, ⟨by rw [f 87 (by decide)]; exact m87, by rw [f 88 (by decide)]; exact m88, by rw [f 89 (by decide)]; exact m89, by rw [f 90 (by decide)]; exact m90⟩, by rw [h.2.1 91 (by decide)]; exact m91⟩
/-- it answers v; scratch alone has changed -/
def PMS (v : Int) (σ : St) : Option MV → St → Prop := fun r τ => r = some (vi v) ∧ MS σ τ
theorem PMS_i {σ τ : St} {a b : Int} (h : a = b) (h2 : MS σ τ) : PMS b σ (some (vi a)) τ := ⟨by rw [h], h2⟩
theorem PMS.m {v : Int} {A : Ab} {σ : St} (hM : MR σ A) {r : Option MV} {τ : St} (p : PMS v σ r τ) : PM v A σ r τ := ⟨p.1, p.2.mr hM, p.2.fc⟩
theorem rP.m {v : Int} {A : Ab} {σ : St} (hM : MR σ A) {r : Option MV} {τ : St} (p : rP (vi v) σ r τ) : PM v A σ r τ := by
  obtain ⟨h1, rfl⟩ := p
  exact ⟨h1, hM, FC.rf _⟩
def RD (w : Nat → Int) (m : Nat) (p most : Int) (τ : St) : Prop := gG τ 77 12 = (szW w m : Int) ∧ gG τ 77 15 = leastW false w m p ∧ gG τ 77 16 = ringsW w m p most ∧ gG τ 77 17 = leastW true w m 0 ∧ ∀ j, j < szW w m → gG τ 84 j = (((ringW w m p).getD j 0 : Nat) : Int)
theorem hd_tl {l : List Nat} (h : 1 ≤ l.length) : l = l.getD 0 0 :: l.tail := by
  cases l with
  | nil => simp at h
  | cons a t => rfl
theorem drp_hd {a : Nat} {t : List Nat} (h : (a :: t).Nodup) : drp (a :: t) a = t := by
  rw [List.nodup_cons] at h
  unfold drp
  rw [List.filter_cons_of_neg (by simp), List.filter_eq_self]
  intro b hb
  simp
  intro e
  subst e
  exact h.1 hb
theorem c_mRounds (g : Gl) (σ : St) (w : Nat → Int) (hX : MX σ w) (m : Nat) (hm : m < 2 ^ nS w) (h8 : szW w m ≤ 8) (h1 : 1 ≤ szW w m) (p most : Int) (hp : 0 ≤ p ∧ p ≤ 99) (hmo : inR most) : Ct g mX12_rounds 11 0 0 [vq (some 77), vi (m : Int), vi p, vi most] σ (fun r τ => r = none ∧ MS σ τ ∧ RD w m p most τ) := by
  refine Ct.of (by decide +kernel) (Nat.le_of_ble_eq_true rfl) ?_
  have hX0 := hX
  have hw := hX.2.2
  have hS := hX.1
  have hN := wf_n hw
  have hP := two_nS hw
  have hnd := mem_nodup m (nS w)
  have hht := hd_tl (l := mem m (nS w)) h1
  have hhd : (mem m (nS w)).getD 0 0 = hdW w m := rfl
  have htl : (mem m (nS w)).tail = tlW w m := rfl
  rw [hhd, htl] at hht
  have hin : hdW w m ∈ mem m (nS w) := by rw [hht]; exact List.mem_cons_self
  obtain ⟨hlt, hbit⟩ := mem_in.mp hin
  have ecl := clr_nat (by omega : m < 512) (by omega : hdW w m < 9) hbit
  have emc := mem_clr (N := nS w) (by omega : m < 512) (by omega : hdW w m < 9) hN.2 hbit
  rw [hht] at emc hnd
  rw [drp_hd hnd] at emc
  have htlen : (tlW w m).length = szW w m - 1 := by unfold tlW; rw [List.length_tail]; rfl
  have pcs : pc10 (m : Int) = (szW w m : Int) := by
    have h3 : pc10 (m : Int) = ((mem m 10).length : Int) := pcn_mem m 10
    have h4 : mem m 10 = mem m (nS w) := mem_top hm (by omega)
    rw [h3, h4]; rfl
  have lb := mn_b (wd := false) (cst_ok hw hp.1) (hdW w m) (szW w m - 1) (tlW w m) (hdW w m) (List.nodup_cons.mp hnd).2 htlen
  have tb := mn_b (wd := true) (cst_ok hw (Int.le_refl 0)) (hdW w m) (szW w m - 1) (tlW w m) (hdW w m) (List.nodup_cons.mp hnd).2 htlen
  have fin : V g mX12_rounds (rmD 11 0 0) (QM g 0 0 (fun r τ => r = none ∧ MS σ τ ∧ RD w m p most τ)) 18 [some (vq (some 77)), some (vi (m : Int)), some (vi p), some (vi most), some (vi (hdW w m : Int))] [] 0 0 σ := by
    have hM1 : MS σ (setG (setG (setG (setG (setG σ 77 12 (szW w m : Int)) 77 15 1000000000) 77 17 1000000000) 77 16 0) 83 0 (hdW w m : Int)) := (((((MS.rf σ).on77 _ (by decide)).on77 _ (by decide)).on77 _ (by decide)).on77 _ (by decide)).on _ _ (by decide)
    have hX1 := hM1.mx hX0
    have C := c_mGoes g w p most hp hmo (szW w m) h8 (szW w m - 1) 0 _ (m - 2 ^ hdW w m) [hdW w m] hX1 rfl (by omega) (Nat.lt_of_le_of_lt (Nat.sub_le _ _) hm) (by rw [emc]; exact htlen) rfl (fun j hj => by
      have : j = 0 := by omega
      subst this
      exact ⟨rfl, hlt⟩) ⟨(by decide : (0 : Int) ≤ 1000000000), (by decide : (1000000000 : Int) ≤ 1000000000)⟩ ⟨(by decide : (0 : Int) ≤ 1000000000), (by decide : (1000000000 : Int) ≤ 1000000000)⟩
    refine V_aload_n dX12_rounds_18 rfl ?_
    refine V_iload_n dX12_rounds_19 rfl ?_
    refine V_callS dX12_rounds_20 (c_bitCount g _ (m : Int) (by omega) (by omega)) ss_RX12_115 rfl ⟨⟨by decide, by decide⟩, ⟨by decide, by decide⟩⟩ (Nat.le_of_ble_eq_true rfl) (fun r20 s20 p20 => ?_)
    obtain ⟨rfl, rfl⟩ := p20
    refine V_val pcs ?_
    refine V_puti dX12_rounds_23 (sp_RX12_124 _) rfl (sh hS rfl) ?_
    refine V_aload_n dX12_rounds_26 rfl ?_
    refine V_ldc (z := 1000000000) dX12_rounds_27 sk_RX12_120 ?_
    refine V_puti dX12_rounds_29 (sp_RX12_143 _) rfl (sh hS rfl) ?_
    refine V_aload_n dX12_rounds_32 rfl ?_
    refine V_ldc (z := 1000000000) dX12_rounds_33 sk_RX12_120 ?_
    refine V_puti dX12_rounds_35 (sp_RX12_137 _) rfl (sh hS rfl) ?_
    refine V_aload_n dX12_rounds_38 rfl ?_
    refine V_iconst dX12_rounds_39 ?_
    refine V_puti dX12_rounds_40 (sp_RX12_134 _) rfl (sh hS rfl) ?_
    refine V_aload_n dX12_rounds_43 rfl ?_
    refine V_getfr dX12_rounds_44 sf_RX12_27 (by decide) (sh hS rfl) (rf hS rfl) ?_
    refine V_iconst dX12_rounds_47 ?_
    refine V_iload dX12_rounds_48 rfl ?_
    refine V_iast dX12_rounds_50 (sh hS rfl) (by omega) ?_
    refine V_aload_n dX12_rounds_51 rfl ?_
    refine V_iload_n dX12_rounds_52 rfl ?_
    refine V_iconst dX12_rounds_53 ?_
    refine V_iload dX12_rounds_54 rfl ?_
    refine V_ishl dX12_rounds_56 (by omega) ?_
    refine V_iconst dX12_rounds_57 ?_
    refine V_inot dX12_rounds_58 ?_
    refine V_iand dX12_rounds_59 ?_
    refine V_val ((clr_of (s := (m : Int)) (i := (hdW w m : Int)) (by omega) (by omega) (by omega) (by omega)).trans ecl) ?_
    refine V_iconst dX12_rounds_60 ?_
    refine V_val (show (1 : Int) = ((0 : Nat) : Int) + 1 from rfl) ?_
    refine V_iload_n dX12_rounds_61 rfl ?_
    refine V_iload_n dX12_rounds_62 rfl ?_
    refine V_callV dX12_rounds_63 C sv_RX12_146 (sh hS rfl) rfl (cr0 (by omega)) (Nat.le_of_ble_eq_true rfl) (fun r63 s63 p63 => ?_)
    obtain ⟨rfl, hG, u15, u16, u17, u84⟩ := p63
    refine V_vret dX12_rounds_66 rfl (Nat.le_refl _) (Nat.le_refl _) ?_
    refine ⟨rfl, hM1.tr hG.ms, hG.2.2.1 12 (by decide) (by decide) (by decide), ?_, ?_, ?_, fun j hj => ?_⟩
    · rw [u15, emc]
      show min 1000000000 (0 + leastW false w m p) = leastW false w m p
      unfold leastW
      omega
    · rw [u16, emc]
      show 0 + ct (cst w p) (hdW w m) (szW w m - 1) (tlW w m) (hdW w m) (most - 0) = ringsW w m p most
      rw [Int.sub_zero, Int.zero_add]; rfl
    · rw [u17, emc]
      show min 1000000000 (max 0 (leastW true w m 0)) = leastW true w m 0
      unfold leastW
      omega
    · rw [u84 j hj, emc]
      refine Eq.trans (if_pos ?_) rfl
      show 0 + leastW false w m p < 1000000000
      unfold leastW
      omega
  have loop : ∀ (k i : Nat), i + k = nS w → mem m i = [] → V g mX12_rounds (rmD 11 0 0) (QM g 0 0 (fun r τ => r = none ∧ MS σ τ ∧ RD w m p most τ)) 3 [some (vq (some 77)), some (vi (m : Int)), some (vi p), some (vi most), some (vi (i : Int))] [] 0 0 σ := by
    intro k
    induction k with
    | zero =>
      intro i hi he
      exfalso
      have : i = nS w := by omega
      subst this
      rw [he] at hht
      cases hht
    | succ k ih =>
      intro i hi he
      have hbt := bt_nat m i
      unfold bt at hbt
      rw [Int.toNat_natCast] at hbt
      by_cases hb : m.testBit i = true
      · have e1 : mem m (i + 1) = [i] := by rw [mem_s, he, if_pos hb]; rfl
        have e2 : hdW w m = i := by
          have := mAt_mono m (a := i + 1) (b := nS w) (k := 0) (by omega) (by rw [e1]; exact Nat.lt_succ_self 0)
          unfold hdW atW
          rw [this]
          unfold mAt
          rw [e1]; rfl
        refine V_iload_n dX12_rounds_3 rfl ?_
        refine V_iload dX12_rounds_4 rfl ?_
        refine V_ishr dX12_rounds_6 (by omega) ?_
        refine V_iconst dX12_rounds_7 ?_
        refine V_iand1 dX12_rounds_8 ?_
        rw [Int.toNat_natCast]
        refine V_ifne (tgt := 18) dX12_rounds_9 (by decide) (by omega) (fun br9 => ?_) (fun br9 => ?_)
        · refine V_mask [true, true, true, true, true] ?_
          rw [← e2]
          exact fin
        · exact absurd (hbt.mpr hb) (by omega)
      · have e1 : mem m (i + 1) = [] := by rw [mem_s, he, if_neg hb]; rfl
        refine V_iload_n dX12_rounds_3 rfl ?_
        refine V_iload dX12_rounds_4 rfl ?_
        refine V_ishr dX12_rounds_6 (by omega) ?_
        refine V_iconst dX12_rounds_7 ?_
        refine V_iand1 dX12_rounds_8 ?_
        rw [Int.toNat_natCast]
        refine V_ifne (tgt := 18) dX12_rounds_9 (by decide) (by omega) (fun br9 => ?_) (fun br9 => ?_)
        · exact absurd (hbt.mp (by omega)) hb
        · refine V_iinc dX12_rounds_12 rfl (by decide) rfl ?_
          refine V_goto (tgt := 3) dX12_rounds_15 (by decide) ?_
          refine V_mask [true, true, true, true, true] ?_
          exact ih (i + 1) (by omega) e1
  refine V_iconst dX12_rounds_0 ?_
  refine V_istore dX12_rounds_1 (by decide) rfl ?_
  refine V_mask [true, true, true, true, true] ?_
  exact loop (nS w) 0 (Nat.zero_add _) rfl