/-! the law: its loop -/
theorem law_get (g : Gl) (QF : QFT) (σ : St) (A : Ab) (N k n : Nat) (i : Int) (hC : CL σ A) (hM : MR σ A) (hA : AI A N) (hN : N ≤ 90000) (hi : 0 ≤ i ∧ i + 6 ≤ (gL0 g : Int) ∧ gL0 g ≤ 3072) (hk : k ≤ 500000) (hn : n ≤ 5000000) (K : LC g QF i N k n) : V g mL_law room_1 QF 1172 [some (vq (some 4)), some (vq (some 8)), some (vq (some 77)), some (vi i)] [] k n σ := by
  have hS := hC.1
  refine V_aload_n dL_law_1172 rfl ?_
  refine V_aload_n dL_law_1173 rfl ?_
  refine V_iload_n dL_law_1174 rfl ?_
  refine V_iconst dL_law_1175 ?_
  refine V_iadd dL_law_1176 ?_
  refine V_rold dL_law_1177 (by decide) (show 0 ≤ i + 1 ∧ i + 1 < (gL0 g : Int) by omega) ?_
  refine V_aload_n dL_law_1178 rfl ?_
  refine V_iload_n dL_law_1179 rfl ?_
  refine V_iconst dL_law_1180 ?_
  refine V_iadd dL_law_1181 ?_
  refine V_rold dL_law_1182 (by decide) (show 0 ≤ i + 2 ∧ i + 2 < (gL0 g : Int) by omega) ?_
  refine V_callV dL_law_1183 (c_get g _ A N hC hA _ _ (ro_b g _) (ro_b g _)) sv_RL_141 (sh hS rfl) rfl ⟨⟨by decide, by decide⟩, ⟨(show k + 0 ≤ 600000 by omega), (show n + 0 ≤ 7302250 by omega)⟩⟩ (Nat.le_of_ble_eq_true rfl) (fun r1183 s1183 p1183 => ?_)
  obtain ⟨rfl, rfl⟩ := p1183
  refine V_aload_n dL_law_1186 rfl ?_
  refine V_aload_n dL_law_1187 rfl ?_
  refine V_iload_n dL_law_1188 rfl ?_
  refine V_iconst dL_law_1189 ?_
  refine V_iadd dL_law_1190 ?_
  refine V_rold dL_law_1191 (by decide) (show 0 ≤ i + 1 ∧ i + 1 < (gL0 g : Int) by omega) ?_
  refine V_aload_n dL_law_1192 rfl ?_
  refine V_iload_n dL_law_1193 rfl ?_
  refine V_iconst dL_law_1194 ?_
  refine V_iadd dL_law_1195 ?_
  refine V_rold dL_law_1196 (by decide) (show 0 ≤ i + 2 ∧ i + 2 < (gL0 g : Int) by omega) ?_
  refine V_callV dL_law_1197 (c_mGet g _ A N hM hA _ _ (ro_b g _) (ro_b g _)) sv_RL_145 (sh hS rfl) rfl ⟨⟨by decide, by decide⟩, ⟨(show k + 0 + 0 ≤ 600000 by omega), (show n + 0 + 0 ≤ 7302250 by omega)⟩⟩ (Nat.le_of_ble_eq_true rfl) (fun r1197 s1197 p1197 => ?_)
  obtain ⟨rfl, rfl⟩ := p1197
  refine V_lcmp dL_law_1200 ?_
  refine V_mask [true, true, true, true] ?_
  refine V_ifeq (tgt := 1381) dL_law_1201 (by decide) (lcmp_b _ _) (fun _ => ?_) (fun z => absurd ((lcmp0 _ _).mpr rfl) z)
  exact K _ _ _ _ hC hM (hA.mono (by omega)) (show k + 0 + 0 ≤ _ by omega) (show n + 0 + 0 ≤ _ by omega)
def lwQ : Option MV → St → Prop := fun r _ => r = some (vi 1)
theorem and_b (x y : Int) : inR (iAnd x y) := by
  unfold iAnd
  have h1 := Int32.le_toInt (iI x &&& iI y)
  have h2 := Int32.toInt_lt (iI x &&& iI y)
  constructor <;> omega
theorem law_loop (g : Gl) (hL : gL0 g ≤ 3072) : ∀ (m j : Nat) (A : Ab) (σ : St) (k n : Nat), gL0 g - 6 * j < m → CL σ A → MR σ A → AI A (28 * j) → k ≤ 1000 + 30 * j → n ≤ 10000 + 110 * j → 6 * j ≤ gL0 g + 5 →
    V g mL_law room_1 (QM g 600000 7302250 lwQ) 18 [some (vq (some 4)), some (vq (some 8)), some (vq (some 77)), some (vi (6 * (j : Int)))] [] k n σ := by
  intro m
  induction m with
  | zero => intro j A σ k n hm; omega
  | succ m ih =>
    intro j A σ k n hm hC hM hA hk hn hj
    have fin : V g mL_law room_1 (QM g 600000 7302250 lwQ) 1387 [some (vq (some 4)), some (vq (some 8)), some (vq (some 77)), some (vi (6 * (j : Int)))] [] k n σ := by
      refine V_iconst dL_law_1387 ?_
      exact V_zret dL_law_1388 rfl (by omega) (by omega) (Or.inr rfl) rfl
    by_cases hq : 6 * j + 6 ≤ gL0 g
    · have hi : 0 ≤ 6 * (j : Int) ∧ 6 * (j : Int) + 6 ≤ (gL0 g : Int) ∧ gL0 g ≤ 3072 := ⟨by omega, by omega, hL⟩
      have K : LC g (QM g 600000 7302250 lwQ) (6 * (j : Int)) (28 * j) k n := by
        intro A' τ k' n' hC' hM' hA' hk' hn'
        refine V_iinc dL_law_1381 rfl (by decide) rfl ?_
        refine V_goto (tgt := 18) dL_law_1384 (by decide) ?_
        have e : 6 * (j : Int) + 6 = 6 * (((j + 1 : Nat)) : Int) := by omega
        have q := ih (j + 1) A' τ k' n' (by omega) hC' hM' (hA'.mono (by omega)) (by omega) (by omega) (by omega)
        rw [← e] at q
        exact q
      refine V_iload_n dL_law_18 rfl ?_
      refine V_aload_n dL_law_19 rfl ?_
      refine V_rolen dL_law_20 (by decide) ?_
      refine V_val (show ((roN g 4 : Nat) : Int) = (gL0 g : Int) from rfl) ?_
      refine V_bipush dL_law_21 (by decide) ?_
      refine V_isub dL_law_23 ?_
      refine V_icmpgt (tgt := 1387) dL_law_24 (by decide) (by omega) (by omega) (fun br24 => ?_) (fun br24 => ?_)
      · exact absurd br24 (by omega)
      · refine V_aload_n dL_law_27 rfl ?_
        refine V_iload_n dL_law_28 rfl ?_
        refine V_rold dL_law_29 (by decide) (show 0 ≤ 6 * (j : Int) ∧ 6 * (j : Int) < (gL0 g : Int) by omega) ?_
        refine V_bipush dL_law_30 (by decide) ?_
        refine V_iand dL_law_32 ?_
        refine V_tsw36 (td := 1381) (t0 := 192) (t1 := 245) (t2 := 288) (t3 := 311) (t4 := 344) (t5 := 367) (t6 := 400) (t7 := 423) (t8 := 456) (t9 := 479) (t10 := 502) (t11 := 525) (t12 := 568) (t13 := 601) (t14 := 644) (t15 := 687) (t16 := 710) (t17 := 743) (t18 := 766) (t19 := 789) (t20 := 822) (t21 := 855) (t22 := 888) (t23 := 911) (t24 := 934) (t25 := 947) (t26 := 990) (t27 := 1033) (t28 := 1056) (t29 := 1099) (t30 := 1172) (t31 := 1206) (t32 := 1249) (t33 := 1292) (t34 := 1355) (t35 := 1368) dL_law_33 (by exact and_b _ _) rfl (by decide) (by decide) (by decide) (by decide) (by decide) (by decide) (by decide) (by decide) (by decide) (by decide) (by decide) (by decide) (by decide) (by decide) (by decide) (by decide) (by decide) (by decide) (by decide) (by decide) (by decide) (by decide) (by decide) (by decide) (by decide) (by decide) (by decide) (by decide) (by decide) (by decide) (by decide) (by decide) (by decide) (by decide) (by decide) (by decide) (by decide) (fun br33 => ?_) (fun br33 => ?_) (fun br33 => ?_) (fun br33 => ?_) (fun br33 => ?_) (fun br33 => ?_) (fun br33 => ?_) (fun br33 => ?_) (fun br33 => ?_) (fun br33 => ?_) (fun br33 => ?_) (fun br33 => ?_) (fun br33 => ?_) (fun br33 => ?_) (fun br33 => ?_) (fun br33 => ?_) (fun br33 => ?_) (fun br33 => ?_) (fun br33 => ?_) (fun br33 => ?_) (fun br33 => ?_) (fun br33 => ?_) (fun br33 => ?_) (fun br33 => ?_) (fun br33 => ?_) (fun br33 => ?_) (fun br33 => ?_) (fun br33 => ?_) (fun br33 => ?_) (fun br33 => ?_) (fun br33 => ?_) (fun br33 => ?_) (fun br33 => ?_) (fun br33 => ?_) (fun br33 => ?_) (fun br33 => ?_) (fun br33 => ?_)
        · exact K A σ k n hC hM (hA.mono (by omega)) (by omega) (by omega)
        · exact law_stave g _ σ A (28 * j) k n _ hC hM hA (by omega) hi (by omega) (by omega) K
        · exact law_hoop g _ σ A (28 * j) k n _ hC hM hA (by omega) hi (by omega) (by omega) K
        · exact law_board g _ σ A (28 * j) k n _ hC hM hA (by omega) hi (by omega) (by omega) K
        · exact law_rule g _ σ A (28 * j) k n _ hC hM hA (by omega) hi (by omega) (by omega) K
        · exact law_told g _ σ A (28 * j) k n _ hC hM hA (by omega) hi (by omega) (by omega) K
        · exact law_ofStave g _ σ A (28 * j) k n _ hC hM hA (by omega) hi (by omega) (by omega) K
        · exact law_takes g _ σ A (28 * j) k n _ hC hM hA (by omega) hi (by omega) (by omega) K
        · exact law_shave g _ σ A (28 * j) k n _ hC hM hA (by omega) hi (by omega) (by omega) K
        · exact law_fits g _ σ A (28 * j) k n _ hC hM hA (by omega) hi (by omega) (by omega) K
        · exact law_sums g _ σ A (28 * j) k n _ hC hM hA (by omega) hi (by omega) (by omega) K
        · exact law_nearest g _ σ A (28 * j) k n _ hC hM hA (by omega) hi (by omega) (by omega) K
        · exact law_least g _ σ A (28 * j) k n _ hC hM hA (by omega) hi (by omega) (by omega) K
        · exact law_leak g _ σ A (28 * j) k n _ hC hM hA (by omega) hi (by omega) (by omega) K
        · exact law_worst g _ σ A (28 * j) k n _ hC hM hA (by omega) hi (by omega) (by omega) K
        · exact law_rings g _ σ A (28 * j) k n _ hC hM hA (by omega) hi (by omega) (by omega) K
        · exact law_girth g _ σ A (28 * j) k n _ hC hM hA (by omega) hi (by omega) (by omega) K
        · exact law_ofHoop g _ σ A (28 * j) k n _ hC hM hA (by omega) hi (by omega) (by omega) K
        · exact law_press g _ σ A (28 * j) k n _ hC hM hA (by omega) hi (by omega) (by omega) K
        · exact law_wet g _ σ A (28 * j) k n _ hC hM hA (by omega) hi (by omega) (by omega) K
        · exact law_driest g _ σ A (28 * j) k n _ hC hM hA (by omega) hi (by omega) (by omega) K
        · exact law_head g _ σ A (28 * j) k n _ hC hM hA (by omega) hi (by omega) (by omega) K
        · exact law_used g _ σ A (28 * j) k n _ hC hM hA (by omega) hi (by omega) (by omega) K
        · exact law_heads g _ σ A (28 * j) k n _ hC hM hA (by omega) hi (by omega) (by omega) K
        · exact law_feed g _ σ A (28 * j) k n _ hC hM hA (by omega) hi (by omega) (by omega) K
        · exact law_read g _ σ A (28 * j) k n _ hC hM hA (by omega) hi (by omega) (by omega) K
        · exact law_hang g _ σ A (28 * j) k n _ hC hM hA (by omega) hi (by omega) (by omega) K
        · exact law_tray g _ σ A (28 * j) k n _ hC hM hA (by omega) hi (by omega) (by omega) K
        · exact law_held g _ σ A (28 * j) k n _ hC hM hA (by omega) hi (by omega) (by omega) K
        · exact law_as g _ σ A (28 * j) k n _ hC hM hA (by omega) hi (by omega) (by omega) K
        · exact law_put g _ σ A (28 * j) k n _ hC hM hA (by omega) hi (by omega) (by omega) K
        · exact law_get g _ σ A (28 * j) k n _ hC hM hA (by omega) hi (by omega) (by omega) K
        · exact law_fill g _ σ A (28 * j) k n _ hC hM hA (by omega) hi (by omega) (by omega) K
        · exact law_judge g _ σ A (28 * j) k n _ hC hM hA (by omega) hi (by omega) (by omega) K
        · exact law_move g _ σ A (28 * j) k n _ hC hM hA (by omega) hi (by omega) (by omega) K
        · exact law_image g _ σ A (28 * j) k n _ hC hM hA (by omega) hi (by omega) (by omega) K
        · exact law_undo g _ σ A (28 * j) k n _ hC hM hA (by omega) hi (by omega) (by omega) K
    · refine V_iload_n dL_law_18 rfl ?_
      refine V_aload_n dL_law_19 rfl ?_
      refine V_rolen dL_law_20 (by decide) ?_
      refine V_val (show ((roN g 4 : Nat) : Int) = (gL0 g : Int) from rfl) ?_
      refine V_bipush dL_law_21 (by decide) ?_
      refine V_isub dL_law_23 ?_
      refine V_icmpgt (tgt := 1387) dL_law_24 (by decide) (by omega) (by omega) (fun br24 => ?_) (fun br24 => ?_)
      · exact fin
      · exact absurd (by omega) br24