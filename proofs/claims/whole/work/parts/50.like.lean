/-! a stock becomes like another -/
def twS (σ : St) (b : Nat) : St := setG (setG (setG (setG (addC σ (.inl 6)) (gn σ) 0 (gG σ b 0)) (gn σ) 1 (gG σ b 1)) (gn σ) 2 (gG σ b 2)) (gn σ) 3 (gG σ b 3)
theorem twS_ext {σ : St} (h : ∀ b, gn σ ≤ b → gl σ b = none) (b : Nat) : Ext σ (twS σ b) := ((((Ext.add1 h _).onG 0 _ (Nat.le_refl _)).onG 1 _ (Nat.le_refl _)).onG 2 _ (Nat.le_refl _)).onG 3 _ (Nat.le_refl _)
theorem twS_at (σ : St) (b : Nat) : gl (twS σ b) (gn σ) = some (.inl 6) ∧ gG (twS σ b) (gn σ) 0 = gG σ b 0 ∧ gG (twS σ b) (gn σ) 1 = gG σ b 1 ∧ gG (twS σ b) (gn σ) 2 = gG σ b 2 ∧ gG (twS σ b) (gn σ) 3 = gG σ b 3 :=
  ⟨up1_is _ _ _, (gG_ne _ _ (Or.inr (by decide))).trans ((gG_ne _ _ (Or.inr (by decide))).trans ((gG_ne _ _ (Or.inr (by decide))).trans (gG_is _ _ _ _))), (gG_ne _ _ (Or.inr (by decide))).trans ((gG_ne _ _ (Or.inr (by decide))).trans (gG_is _ _ _ _)), (gG_ne _ _ (Or.inr (by decide))).trans (gG_is _ _ _ _), gG_is _ _ _ _⟩
theorem c_twin (g : Gl) (σ : St) (b : Nat) (hb : gl σ b = some (.inl 6)) (hlt : b < gn σ) : Ct g mX6_twin 3 1 4 [vq (some b)] σ (fun r τ => r = some (vq (some (gn σ))) ∧ τ = twS σ b) := by
  refine Ct.of (by decide +kernel) (Nat.le_of_ble_eq_true rfl) ?_
  have hb2 : gl (addC σ (.inl 6)) b = some (.inl 6) := (up1_ne _ (by omega) _).trans hb
  have e : ∀ k, gG (addC σ (.inl 6)) b k = gG σ b k := fun k => congrFun (up1_ne (gG σ) (by omega) _) k
  refine V_new dX6_twin_0 sn_RX6_8 (Nat.le_of_ble_eq_true rfl) (Nat.le_of_ble_eq_true rfl) ?_
  refine V_dup dX6_twin_3 rfl ?_
  refine V_aload_n dX6_twin_4 rfl ?_
  refine V_getfi dX6_twin_5 sf_RX6_7 rfl hb2 ?_
  refine V_val (e 0) ?_
  refine V_aload_n dX6_twin_8 rfl ?_
  refine V_getfi dX6_twin_9 sf_RX6_13 rfl hb2 ?_
  refine V_val (e 1) ?_
  refine V_aload_n dX6_twin_12 rfl ?_
  refine V_getfi dX6_twin_13 sf_RX6_16 rfl hb2 ?_
  refine V_val (e 2) ?_
  refine V_aload_n dX6_twin_16 rfl ?_
  refine V_getfi dX6_twin_17 sf_RX6_19 rfl hb2 ?_
  refine V_val (e 3) ?_
  refine V_callI dX6_twin_20 (c_sInit g _ (gn σ) _ _ _ _ (up1_is _ _ _)) si_RX6_28 rfl ⟨⟨by decide, by decide⟩, ⟨by decide, by decide⟩⟩ (Nat.le_of_ble_eq_true rfl) (fun r20 s20 p20 => ?_)
  obtain ⟨rfl, rfl⟩ := p20
  refine V_aret dX6_twin_23 rfl (Nat.le_refl _) (Nat.le_refl _) ?_
  exact ⟨rfl, rfl⟩
/-- what stays where it was when the stock at a becomes like another -/
def BF (a : Nat) (σ τ : St) : Prop := gn σ ≤ gn τ ∧ (∀ b, gn τ ≤ b → gl τ b = none) ∧ Std τ ∧ ∀ c, c < gn σ → gl τ c = gl σ c ∧ gL τ c = gL σ c ∧ (c ≠ a → c ≠ a + 4 → gG τ c = gG σ c) ∧ (c ≠ a + 1 → c ≠ a + 2 → c ≠ a + 3 → gP τ c = gP σ c)
def BS (a : Nat) (σ τ : St) (w : Nat → Int) (i : Nat) : Prop := (∀ j, j < i → ∃ b, gP τ (a + 1) j = some b ∧ gn σ ≤ b ∧ b < gn τ ∧ gl τ b = some (.inl 6) ∧ gG τ b 0 = w (7 + j) ∧ gG τ b 1 = w (16 + j) ∧ gG τ b 2 = w (25 + j) ∧ gG τ b 3 = w (34 + j)) ∧ ∀ j k, j < i → k < i → gP τ (a + 1) j = gP τ (a + 1) k → j = k
theorem BF.onP {a : Nat} {σ τ : St} (h : BF a σ τ) {c : Nat} (f : Nat → Option Nat) (hc : c = a + 1 ∨ c = a + 2 ∨ c = a + 3) (ha : a = 9 ∨ a = 14) : BF a σ (setP τ c f) := ⟨h.1, h.2.1, h.2.2.1.onP f (by omega), fun d hd => ⟨(h.2.2.2 d hd).1, (h.2.2.2 d hd).2.1, (h.2.2.2 d hd).2.2.1, fun q1 q2 q3 => (up1_ne _ (by omega) _).trans ((h.2.2.2 d hd).2.2.2 q1 q2 q3)⟩⟩
theorem BF.onG {a : Nat} {σ τ : St} (h : BF a σ τ) {c : Nat} (k : Nat) (v : Int) (hc : c = a ∨ c = a + 4) : BF a σ (setG τ c k v) := ⟨h.1, h.2.1, h.2.2.1, fun d hd => ⟨(h.2.2.2 d hd).1, (h.2.2.2 d hd).2.1, fun q1 q2 => (up1_ne _ (by omega) _).trans ((h.2.2.2 d hd).2.2.1 q1 q2), (h.2.2.2 d hd).2.2.2⟩⟩
theorem BF.ext {a : Nat} {σ τ υ : St} (h : BF a σ τ) (hE : Ext τ υ) : BF a σ υ := by
  have q1 := hE.1
  have q2 := h.1
  refine ⟨by omega, hE.2.2, hE.std h.2.2.1, fun d hd => ?_⟩
  have e := hE.2.1 d (by omega)
  have f := h.2.2.2 d hd
  exact ⟨e.1.trans f.1, e.2.2.1.trans f.2.1, fun x y => e.2.1.trans (f.2.2.1 x y), fun x y z => e.2.2.2.trans (f.2.2.2 x y z)⟩
theorem BS.onG {a : Nat} {σ τ : St} {w : Nat → Int} {i : Nat} (h : BS a σ τ w i) {c : Nat} (k : Nat) (v : Int) (hc : c < gn σ) : BS a σ (setG τ c k v) w i := ⟨fun j hj => by
  obtain ⟨b, x1, x2, x3, x4, x5⟩ := h.1 j hj
  exact ⟨b, x1, x2, x3, x4, by rw [show gG (setG τ c k v) b = gG τ b from up1_ne _ (by omega) _]; exact x5⟩, h.2⟩
theorem BS.onP {a : Nat} {σ τ : St} {w : Nat → Int} {i : Nat} (h : BS a σ τ w i) {c : Nat} (f : Nat → Option Nat) (hc : a + 1 ≠ c) : BS a σ (setP τ c f) w i := by
  unfold BS
  rw [show gP (setP τ c f) (a + 1) = gP τ (a + 1) from up1_ne _ hc _]
  exact h
/-- of a stock the counts and the rules -/
def BL (a m : Nat) (σ τ : St) (w : Nat → Int) : Prop := BF a σ τ ∧ SR τ a w ∧ BS a σ τ w (nS w)
