/-- a text: whether it is one, where it ends (or fails), where its statements begin -/
def paF (t : Nat → Int) (n : Int) : Nat → Int → Bool × Int × List Int
  | 0, c => (false, c, [])
  | m + 1, c => if (stR t n c).1 = true then (if (stR t n c).2 = n then (true, (stR t n c).2, [c]) else if pk t n (stR t n c).2 = 59 then ((paF t n m ((stR t n c).2 + 1)).1, (paF t n m ((stR t n c).2 + 1)).2.1, c :: (paF t n m ((stR t n c).2 + 1)).2.2) else (false, (stR t n c).2, [])) else (false, (stR t n c).2, [])
/-- statement i, begun at c, lies in the tape's rows -/
def RW (τ : St) (t : Nat → Int) (n : Int) (i : Nat) (c : Int) : Prop := gG τ 22 i = pk t n c ∧ gG τ 23 i = c ∧ ∀ j, j < (hmN (pk t n c)).toNat → gG τ (25 + i) j = (stL t n c).getD j 0
def TG (σ τ : St) : Prop := (gl τ = gl σ ∧ gn τ = gn σ ∧ gL τ = gL σ ∧ gP τ = gP σ) ∧ (∀ a, a < 20 ∨ a = 21 ∨ 51 < a → gG τ a = gG σ a) ∧ gG τ 20 4 = gG σ 20 4
theorem TG.std {σ τ : St} (h : TG σ τ) (hS : Std σ) : Std τ := ⟨by rw [h.1.2.1]; exact hS.1, by rw [h.1.1]; exact hS.2.1, by rw [h.1.2.2.2]; exact hS.2.2⟩
theorem TG.tt {σ τ : St} (h : TG σ τ) {t : Nat → Int} {n : Int} (hT : TT σ t n) : TT τ t n := ⟨h.2.2.trans hT.1, hT.2.1, fun j hj => by rw [h.2.1 21 (by decide)]; exact hT.2.2 j hj⟩
theorem TG.tf {σ τ υ : St} (h : TG σ τ) {k : Nat} (hk : k < 27) (h2 : TF k τ υ) : TG σ υ := ⟨⟨h2.1.1.trans h.1.1, h2.1.2.1.trans h.1.2.1, h2.1.2.2.1.trans h.1.2.2.1, h2.1.2.2.2.trans h.1.2.2.2⟩, fun a ha => (h2.2.1 a (by omega) (by omega) (by omega) (by omega)).trans (h.2.1 a ha), (h2.2.2.2 4 (by decide)).trans h.2.2⟩
theorem TG.onG {σ τ : St} (h : TG σ τ) {k : Nat} (v : Int) (hk : k ≠ 4) : TG σ (setG τ 20 k v) := ⟨h.1, fun a ha => (up1_ne _ (by omega) _).trans (h.2.1 a ha), (gG_ne _ _ (Or.inr (Ne.symm hk))).trans h.2.2⟩
theorem RW.tf {τ υ : St} {t : Nat → Int} {n : Int} {i : Nat} {c : Int} (h : RW τ t n i c) {k : Nat} (hik : i ≠ k) (h2 : TF k τ υ) : RW υ t n i c := ⟨(h2.2.2.1 i hik).1.trans h.1, (h2.2.2.1 i hik).2.trans h.2.1, fun j hj => by rw [h2.2.1 (25 + i) (by omega) (by omega) (by omega) (by omega)]; exact h.2.2 j hj⟩
theorem RW.onG {τ : St} {t : Nat → Int} {n : Int} {i : Nat} {c : Int} (h : RW τ t n i c) (k : Nat) (v : Int) : RW (setG τ 20 k v) t n i c := ⟨(gG_ne _ _ (Or.inl (by decide))).trans h.1, (gG_ne _ _ (Or.inl (by decide))).trans h.2.1, fun j hj => (gG_ne _ _ (Or.inl (by omega))).trans (h.2.2 j hj)⟩
def Ppa (σ : St) (t : Nat → Int) (n : Int) : Option MV → St → Prop := fun r τ => r = some (vi (bI ((paF t n 27 0).1 = true))) ∧ TG σ τ ∧ gG τ 20 6 = (paF t n 27 0).2.1 ∧ ((paF t n 27 0).1 = true → gG τ 20 5 = ((paF t n 27 0).2.2.length : Int) ∧ ∀ i, i < (paF t n 27 0).2.2.length → RW τ t n i ((paF t n 27 0).2.2.getD i 0))
theorem getD_app1 {l r : List Int} {i : Nat} (h : i < l.length) : (l ++ r).getD i 0 = l.getD i 0 := by
  rw [List.getD_eq_getElem?_getD, List.getD_eq_getElem?_getD, List.getElem?_append_left h]
theorem getD_app2 {l : List Int} {x : Int} : (l ++ [x]).getD l.length 0 = x := by
  rw [List.getD_eq_getElem?_getD, List.getElem?_append_right (Nat.le_refl _), Nat.sub_self]; rfl
theorem c_parse (g : Gl) (σ : St) (hS : Std σ) (t : Nat → Int) (n : Int) (h : TT σ t n) : Ct g mX8_parse 4 0 0 [vq (some 20)] σ (Ppa σ t n) := by
  refine Ct.of (by decide +kernel) (Nat.le_of_ble_eq_true rfl) ?_
  have hS0 := hS
  have hn := h.2.1
  have loop : ∀ (m k : Nat) (P : List Int) (c : Int) (τ : St), k + m = 27 → P.length = k → paF t n 27 0 = ((paF t n m c).1, (paF t n m c).2.1, P ++ (paF t n m c).2.2) → TG σ τ → gG τ 20 6 = c → 0 ≤ c ∧ c ≤ n → (∀ i, i < k → RW τ t n i (P.getD i 0)) →
      V g mX8_parse (rmD 4 0 0) (QM g 0 0 (Ppa σ t n)) 12 [some (vq (some 20)), some (vi (k : Int))] [] 0 0 τ := by
    intro m
    induction m with
    | zero =>
      intro k P c τ hk hP hE hG hc hcb hr
      have hS := hG.std hS0
      have r1 : paF t n 27 0 = (false, c, P ++ []) := hE
      refine V_iload_n dX8_parse_12 rfl ?_
      refine V_bipush dX8_parse_13 (by decide) ?_
      refine V_icmpge (tgt := 65) dX8_parse_15 (by decide) (by omega) (by omega) (fun br15 => ?_) (fun br15 => ?_)
      · refine V_iconst dX8_parse_65 ?_
        refine V_zret dX8_parse_66 rfl (Nat.le_refl _) (Nat.le_refl _) (by first | omega | exact bI_01 _) ?_
        refine ⟨by rw [r1]; exact congrArg some (by rw [bI_f (fun z => absurd (show false = true from z) (by decide))]), hG, by rw [r1]; exact hc, fun z => ?_⟩
        rw [r1] at z
        cases z
      · omega
    | succ m ih =>
      intro k P c τ hk hP hE hG hc hcb hr
      have hS := hG.std hS0
      have hT := hG.tt h
      have no : ∀ (e : Int) (υ : St), paF t n (m + 1) c = (false, e, []) → TG σ υ → gG υ 20 6 = e → Ppa σ t n (some (vi 0)) υ := by
        intro e υ q hG he
        have r1 : paF t n 27 0 = (false, e, P ++ []) := by rw [hE, q]
        refine ⟨by rw [r1]; exact congrArg some (by rw [bI_f (fun z => absurd (show false = true from z) (by decide))]), hG, by rw [r1]; exact he, fun z => ?_⟩
        rw [r1] at z
        cases z
      refine V_iload_n dX8_parse_12 rfl ?_
      refine V_bipush dX8_parse_13 (by decide) ?_
      refine V_icmpge (tgt := 65) dX8_parse_15 (by decide) (by omega) (by omega) (fun br15 => ?_) (fun br15 => ?_)
      · omega
      · refine V_aload_n dX8_parse_18 rfl ?_
        refine V_iload_n dX8_parse_19 rfl ?_
        refine V_callV dX8_parse_20 (c_parseStatement g _ hS t n c hT hc hcb k (by omega)) sv_RX8_37 (sh hS rfl) rfl ⟨⟨by decide, by decide⟩, ⟨by decide, by decide⟩⟩ (Nat.le_of_ble_eq_true rfl) (fun r20 s20 p20 => ?_)
        obtain ⟨rfl, hF, p6, pb, pr⟩ := p20
        have hG1 := hG.tf (by omega) hF
        have hS := hG1.std hS0
        refine V_ifneB (tgt := 28) dX8_parse_23 (by decide) (fun br23 => ?_) (fun br23 => ?_)
        · have rw0 := pr br23
          refine V_aload_n dX8_parse_28 rfl ?_
          refine V_iload_n dX8_parse_29 rfl ?_
          refine V_iconst dX8_parse_30 ?_
          refine V_iadd dX8_parse_31 ?_
          refine V_puti dX8_parse_32 (sp_RX8_34 _) rfl (sh hS rfl) ?_
          refine V_aload_n dX8_parse_35 rfl ?_
          refine V_getfi dX8_parse_36 sf_RX8_31 rfl (sh hS rfl) ?_
          refine V_val (show _ = (stR t n c).2 from (gG_ne _ _ (Or.inr (by decide))).trans p6) ?_
          refine V_aload_n dX8_parse_39 rfl ?_
          refine V_getfi dX8_parse_40 sf_RX8_27 rfl (sh hS rfl) ?_
          refine V_val (show _ = n from (gG_ne _ _ (Or.inr (by decide))).trans (hG1.tt h).1) ?_
          refine V_icmpne (tgt := 48) dX8_parse_43 (by decide) (by omega) (by omega) (fun br43 => ?_) (fun br43 => ?_)
          · refine V_aload_n dX8_parse_48 rfl ?_
            refine V_bipush dX8_parse_49 (by decide) ?_
            refine V_callV dX8_parse_51 (c_pass g (setG s20 20 5 ((k : Int) + 1)) hS t n (stR t n c).2 59 ((hG1.onG _ (by decide)).tt h) ((gG_ne _ _ (Or.inr (by decide))).trans p6) (by omega) (by decide)) sv_RX8_41 (sh hS rfl) rfl ⟨⟨by decide, by decide⟩, ⟨by decide, by decide⟩⟩ (Nat.le_of_ble_eq_true rfl) (fun r51 s51 p51 => ?_)
            obtain ⟨rfl, rfl⟩ := p51
            refine V_ifneB (tgt := 59) dX8_parse_54 (by decide) (fun br54 => ?_) (fun br54 => ?_)
            · refine V_iinc dX8_parse_59 rfl (by decide) rfl ?_
              refine V_goto (tgt := 12) dX8_parse_62 (by decide) ?_
              refine V_mask [true, true] ?_
              have hE2 : paF t n (m + 1) c = ((paF t n m ((stR t n c).2 + 1)).1, (paF t n m ((stR t n c).2 + 1)).2.1, c :: (paF t n m ((stR t n c).2 + 1)).2.2) := by
                show (if _ then _ else _) = _
                rw [if_pos br23, if_neg br43, if_pos br54]
              have hlt := pkLtN br54 (by decide)
              rw [if_pos br54]
              refine ih (k + 1) (P ++ [c]) ((stR t n c).2 + 1) _ (by omega) (by rw [List.length_append, hP]; rfl) (by rw [hE, hE2, List.append_assoc]; rfl) ((hG1.onG _ (by decide)).onG _ (by decide)) (gG_is _ _ _ _) (by omega) (fun i hi => ?_)
              by_cases q : i = k
              · rw [q, ← hP, getD_app2, hP]
                exact (RW.onG rw0 _ _).onG _ _
              · rw [getD_app1 (by omega)]
                exact (((hr i (by omega)).tf q hF).onG _ _).onG _ _
            · refine V_iconst dX8_parse_57 ?_
              refine V_zret dX8_parse_58 rfl (Nat.le_refl _) (Nat.le_refl _) (by first | omega | exact bI_01 _) ?_
              rw [if_neg br54]
              refine no (stR t n c).2 _ ?_ ((hG1.onG _ (by decide)).onG _ (by decide)) (gG_is _ _ _ _)
              show (if _ then _ else _) = _
              rw [if_pos br23, if_neg br43, if_neg br54]
          · have hE2 : paF t n (m + 1) c = (true, (stR t n c).2, [c]) := by
              show (if _ then _ else _) = _
              rw [if_pos br23, if_pos br43]
            have r1 : paF t n 27 0 = (true, (stR t n c).2, P ++ [c]) := by rw [hE, hE2]
            refine V_iconst dX8_parse_46 ?_
            refine V_zret dX8_parse_47 rfl (Nat.le_refl _) (Nat.le_refl _) (by first | omega | exact bI_01 _) ?_
            refine ⟨by rw [r1]; exact congrArg some (by rw [bI_t rfl]), hG1.onG _ (by decide), by rw [r1]; exact (gG_ne _ _ (Or.inr (by decide))).trans p6, fun _ => ?_⟩
            rw [r1]
            show gG (setG s20 20 5 _) 20 5 = ((P ++ [c]).length : Int) ∧ ∀ i, i < (P ++ [c]).length → RW _ t n i ((P ++ [c]).getD i 0)
            rw [List.length_append, List.length_singleton, hP]
            refine ⟨gG_is _ _ _ _, fun i hi => ?_⟩
            by_cases q : i = k
            · rw [q, ← hP, getD_app2, hP]
              exact RW.onG rw0 _ _
            · rw [getD_app1 (by omega)]
              exact ((hr i (by omega)).tf q hF).onG _ _
        · refine V_iconst dX8_parse_26 ?_
          refine V_zret dX8_parse_27 rfl (Nat.le_refl _) (Nat.le_refl _) (by first | omega | exact bI_01 _) ?_
          exact no _ _ (if_neg br23) hG1 p6
  have hT0 : TG σ σ := ⟨⟨rfl, rfl, rfl, rfl⟩, fun _ _ => rfl, rfl⟩
  refine V_aload_n dX8_parse_0 rfl ?_
  refine V_iconst dX8_parse_1 ?_
  refine V_puti dX8_parse_2 (sp_RX8_31 _) rfl (sh hS rfl) ?_
  refine V_aload_n dX8_parse_5 rfl ?_
  refine V_iconst dX8_parse_6 ?_
  refine V_puti dX8_parse_7 (sp_RX8_34 _) rfl (sh hS rfl) ?_
  refine V_iconst dX8_parse_10 ?_
  refine V_istore_n dX8_parse_11 (by decide) rfl ?_
  refine V_mask [true, true] ?_
  exact loop 27 0 [] 0 _ rfl rfl rfl ((hT0.onG _ (by decide)).onG _ (by decide)) ((gG_ne _ _ (Or.inr (by decide))).trans (gG_is _ _ _ _)) (by omega) (fun i hi => absurd hi (Nat.not_lt_zero i))