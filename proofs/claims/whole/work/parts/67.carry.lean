/-! a text is carried out -/
def doN (A : Ab) (t : Nat → Int) (n c : Int) : Ab :=
  if pk t n c = 115 then staveN A ((stL t n c).getD 0 0) ((stL t n c).getD 1 0) ((stL t n c).getD 2 0) ((stL t n c).getD 3 0)
  else if pk t n c = 104 then hoopN A ((stL t n c).getD 0 0) ((stL t n c).getD 1 0) ((stL t n c).getD 2 0)
  else if pk t n c = 98 then boardN A ((stL t n c).getD 0 0)
  else if pk t n c = 103 then ruleN A 0 ((stL t n c).getD 0 0) else ruleN A 2 ((stL t n c).getD 0 0)
def doL (A : Ab) (t : Nat → Int) (n : Int) : List Int → Ab
  | [] => A
  | c :: r => doL (doN A t n c) t n r
theorem AI.don {A : Ab} {N : Nat} (h : AI A N) (t : Nat → Int) (n c : Int) : AI (doN A t n c) (N + 1) := by
  unfold doN
  split
  · exact h.stave _ _ _ _
  · split
    · exact (h.hoop _ _ _).mono (Nat.le_succ N)
    · split
      · exact (h.board _).mono (Nat.le_succ N)
      · split
        · exact (h.rules _ _).mono (Nat.le_succ N)
        · exact (h.rules _ _).mono (Nat.le_succ N)
theorem AI.dol {t : Nat → Int} {n : Int} : ∀ (P : List Int) {A : Ab} {N : Nat}, AI A N → AI (doL A t n P) (N + P.length)
  | [], _, _, h => h
  | c :: r, A, N, h => by
    have := AI.dol (t := t) (n := n) r (h.don t n c)
    show AI (doL (doN A t n c) t n r) _
    rw [List.length_cons, show N + (r.length + 1) = N + 1 + r.length by omega]
    exact this
theorem TP.rf (σ : St) : TP σ σ := fun _ _ _ => rfl
theorem TP.tr {σ τ υ : St} (h : TP σ τ) (h2 : TP τ υ) : TP σ υ := fun a p q => (h2 a p q).trans (h a p q)
theorem Ext.tp {σ τ : St} (h : Ext σ τ) (h93 : 93 ≤ gn σ) : TP σ τ := fun a h1 h2 => (h.2.1 a (by omega)).2.1
theorem RW.tp {σ τ : St} {t : Nat → Int} {n : Int} {i : Nat} {c : Int} (h : RW σ t n i c) (hi : i < 27) (h2 : TP σ τ) : RW τ t n i c := ⟨by rw [h2 22 (by decide) (by decide)]; exact h.1, by rw [h2 23 (by decide) (by decide)]; exact h.2.1, fun j hj => by rw [h2 (25 + i) (by omega) (by omega)]; exact h.2.2 j hj⟩
theorem RLs.tp {σ τ : St} {t : Nat → Int} {n : Int} {P : List Int} (h : RLs σ t n P) (h2 : TP σ τ) : RLs τ t n P := ⟨by rw [h2 20 (by decide) (by decide)]; exact h.1, h.2.1, fun i hi => ⟨(h.2.2 i hi).1.tp (by have := h.2.1; omega) h2, (h.2.2 i hi).2⟩⟩
def PK (A : Ab) (σ : St) : Option MV → St → Prop := fun r τ => r = none ∧ CL τ A ∧ FM σ τ ∧ TP σ τ
theorem fuF_c {t : Nat → Int} {n c : Int} {r : List Int} {s h b : Int} (hc : 0 ≤ c) (e : fuF t n (c :: r) s h b = -1) : ((s + adl (pk t n c) 115 ≤ 9 ∧ h + adl (pk t n c) 104 ≤ 6 ∧ b + adl (pk t n c) 98 ≤ 7) ∧ okT t n c) ∧ fuF t n r (s + adl (pk t n c) 115) (h + adl (pk t n c) 104) (b + adl (pk t n c) 98) = -1 := by
  by_cases q : (s + adl (pk t n c) 115 ≤ 9 ∧ h + adl (pk t n c) 104 ≤ 6 ∧ b + adl (pk t n c) 98 ≤ 7) ∧ okT t n c
  · refine ⟨q, ?_⟩
    have e2 : fuF t n (c :: r) s h b = fuF t n r (s + adl (pk t n c) 115) (h + adl (pk t n c) 104) (b + adl (pk t n c) 98) := if_pos q
    rw [← e2]; exact e
  · have e2 : fuF t n (c :: r) s h b = c := if_neg q
    omega
theorem doN_s {A : Ab} {t : Nat → Int} {n c : Int} (h : pk t n c = 115) (ho : okT t n c) (h9 : aW A 4 < 9) : doN A t n c = sS A ((stL t n c).getD 0 0) ((stL t n c).getD 1 0) ((stL t n c).getD 2 0) ((stL t n c).getD 3 0) := by
  have ok : okS ((stL t n c).getD 0 0) ((stL t n c).getD 1 0) ((stL t n c).getD 2 0) ((stL t n c).getD 3 0) := by
    rcases ho with z | z | z | z | z
    · exact z.2
    all_goals exact absurd z.1 (by omega)
  unfold doN staveN
  rw [if_pos h, if_pos ok, if_neg (by omega)]
theorem doN_h {A : Ab} {t : Nat → Int} {n c : Int} (h : pk t n c = 104) (ho : okT t n c) (h9 : aW A 5 < 6) : doN A t n c = sW A (addHw (aW A) ((stL t n c).getD 0 0) ((stL t n c).getD 1 0) ((stL t n c).getD 2 0)) := by
  have ok : okH ((stL t n c).getD 0 0) ((stL t n c).getD 1 0) ((stL t n c).getD 2 0) := by
    rcases ho with z | z | z | z | z
    · exact absurd z.1 (by omega)
    · exact z.2
    all_goals exact absurd z.1 (by omega)
  unfold doN hoopN
  rw [if_neg (by omega), if_pos h, if_pos ok, if_neg (by omega)]
theorem doN_b {A : Ab} {t : Nat → Int} {n c : Int} (h : pk t n c = 98) (ho : okT t n c) (h9 : aW A 6 < 7) : doN A t n c = sW A (addBw (aW A) ((stL t n c).getD 0 0)) := by
  have ok : okB ((stL t n c).getD 0 0) := by
    rcases ho with z | z | z | z | z
    · exact absurd z.1 (by omega)
    · exact absurd z.1 (by omega)
    · exact z.2
    all_goals exact absurd z.1 (by omega)
  unfold doN boardN
  rw [if_neg (by omega), if_neg (by omega), if_pos h, if_pos ok, if_neg (by omega)]
theorem doN_g {A : Ab} {t : Nat → Int} {n c : Int} (h : pk t n c = 103) (ho : okT t n c) : doN A t n c = sW A (up1 (aW A) 0 ((stL t n c).getD 0 0)) := by
  have ok : okR 0 ((stL t n c).getD 0 0) := by
    rcases ho with z | z | z | z | z
    · exact absurd z.1 (by omega)
    · exact absurd z.1 (by omega)
    · exact absurd z.1 (by omega)
    · exact z.2
    · exact absurd z.1 (by omega)
  unfold doN ruleN
  rw [if_neg (by omega), if_neg (by omega), if_neg (by omega), if_pos h, if_pos ok]
  rfl
theorem doN_t {A : Ab} {t : Nat → Int} {n c : Int} (h : pk t n c = 116) (ho : okT t n c) : doN A t n c = sW A (up1 (aW A) 2 ((stL t n c).getD 0 0)) := by
  have ok : okR 2 ((stL t n c).getD 0 0) := by
    rcases ho with z | z | z | z | z
    · exact absurd z.1 (by omega)
    · exact absurd z.1 (by omega)
    · exact absurd z.1 (by omega)
    · exact absurd z.1 (by omega)
    · exact z.2
  unfold doN ruleN
  rw [if_neg (by omega), if_neg (by omega), if_neg (by omega), if_neg (by omega), if_pos ok]
  rfl
theorem adl_1 {l x : Int} (h : l = x) : adl l x = 1 := if_pos h
theorem adl_0 {l x : Int} (h : ¬ l = x) : adl l x = 0 := if_neg h
theorem doN_n {A : Ab} {t : Nat → Int} {n c : Int} (ho : okT t n c) (b4 : aW A 4 + adl (pk t n c) 115 ≤ 9) (b5 : aW A 5 + adl (pk t n c) 104 ≤ 6) (b6 : aW A 6 + adl (pk t n c) 98 ≤ 7) :
    aW (doN A t n c) 4 = aW A 4 + adl (pk t n c) 115 ∧ aW (doN A t n c) 5 = aW A 5 + adl (pk t n c) 104 ∧ aW (doN A t n c) 6 = aW A 6 + adl (pk t n c) 98 := by
  have hp : pk t n c = 115 ∨ pk t n c = 104 ∨ pk t n c = 98 ∨ pk t n c = 103 ∨ pk t n c = 116 := by
    rcases ho with z | z | z | z | z <;> have := z.1 <;> omega
  rcases hp with z | z | z | z | z
  · rw [adl_1 z] at b4
    rw [doN_s z ho (by omega), adl_1 z, adl_0 (show ¬ pk t n c = 104 by omega), adl_0 (show ¬ pk t n c = 98 by omega)]
    exact ⟨addSw_4, (addSw_o (by decide) (by omega) (by omega) (by omega) (by omega) (by omega)).trans (Int.add_zero _).symm, (addSw_o (by decide) (by omega) (by omega) (by omega) (by omega) (by omega)).trans (Int.add_zero _).symm⟩
  · rw [adl_1 z] at b5
    rw [doN_h z ho (by omega), adl_1 z, adl_0 (show ¬ pk t n c = 115 by omega), adl_0 (show ¬ pk t n c = 98 by omega)]
    refine ⟨(addHw_o (by decide) (by omega) (by omega) (by omega)).trans (Int.add_zero _).symm, ?_, (addHw_o (by decide) (by omega) (by omega) (by omega)).trans (Int.add_zero _).symm⟩
    show addHw (aW A) _ _ _ 5 = _
    unfold addHw
    rw [up1_ne _ (by omega), up1_ne _ (by omega), up1_ne _ (by omega), up1_is]
  · rw [adl_1 z] at b6
    rw [doN_b z ho (by omega), adl_1 z, adl_0 (show ¬ pk t n c = 115 by omega), adl_0 (show ¬ pk t n c = 104 by omega)]
    show addBw (aW A) ((stL t n c).getD 0 0) 4 = _ ∧ addBw (aW A) ((stL t n c).getD 0 0) 5 = _ ∧ addBw (aW A) ((stL t n c).getD 0 0) 6 = _
    exact ⟨(addBw_o (by decide) (by omega)).trans (Int.add_zero _).symm, (addBw_o (by decide) (by omega)).trans (Int.add_zero _).symm, up1_is _ _ _⟩
  · rw [doN_g z ho, adl_0 (show ¬ pk t n c = 115 by omega), adl_0 (show ¬ pk t n c = 104 by omega), adl_0 (show ¬ pk t n c = 98 by omega)]
    show up1 (aW A) 0 ((stL t n c).getD 0 0) 4 = _ ∧ up1 (aW A) 0 ((stL t n c).getD 0 0) 5 = _ ∧ up1 (aW A) 0 ((stL t n c).getD 0 0) 6 = _
    exact ⟨(up1_ne _ (by decide) _).trans (Int.add_zero _).symm, (up1_ne _ (by decide) _).trans (Int.add_zero _).symm, (up1_ne _ (by decide) _).trans (Int.add_zero _).symm⟩
  · rw [doN_t z ho, adl_0 (show ¬ pk t n c = 115 by omega), adl_0 (show ¬ pk t n c = 104 by omega), adl_0 (show ¬ pk t n c = 98 by omega)]
    show up1 (aW A) 2 ((stL t n c).getD 0 0) 4 = _ ∧ up1 (aW A) 2 ((stL t n c).getD 0 0) 5 = _ ∧ up1 (aW A) 2 ((stL t n c).getD 0 0) 6 = _
    exact ⟨(up1_ne _ (by decide) _).trans (Int.add_zero _).symm, (up1_ne _ (by decide) _).trans (Int.add_zero _).symm, (up1_ne _ (by decide) _).trans (Int.add_zero _).symm⟩
