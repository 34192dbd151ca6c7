/-! the driest size: one hoop more -/
def cwF (P : Nat → Int) (t : Int) : Nat → Int
  | 0 => 0
  | n + 1 => cwF P t n + if min (P n) 99 < t then 1 else 0
theorem hmF_c (P : Nat → Int) (rest pr t : Int) : ∀ n : Nat, hmF P rest pr t n = cwF (fun h => P h + prF rest pr h) t n
  | 0 => rfl
  | n + 1 => by
    show hmF P rest pr t n + _ = cwF _ t n + _
    rw [hmF_c P rest pr t n]
theorem cwF_b (P : Nat → Int) (t : Int) : ∀ n : Nat, 0 ≤ cwF P t n ∧ cwF P t n ≤ n
  | 0 => ⟨Int.le_refl _, Int.le_refl _⟩
  | n + 1 => by
    have a := cwF_b P t n
    unfold cwF
    split <;> omega
theorem cwF_cong {P Q : Nat → Int} {t : Int} : ∀ n : Nat, (∀ j, j < n → P j = Q j) → cwF P t n = cwF Q t n
  | 0, _ => rfl
  | n + 1, h => by
    unfold cwF
    rw [cwF_cong n (fun j hj => h j (by omega)), h n (by omega)]
theorem pcn_cong {s r : Int} : ∀ n : Nat, (∀ i : Nat, i < n → (bt s i ↔ bt r i)) → pcn s n = pcn r n
  | 0, _ => rfl
  | n + 1, h => by
    have a := pcn_cong n (fun i hi => h i (by omega))
    have b := h n (by omega)
    show pcn s n + (if bt s n then 1 else 0) = pcn r n + (if bt r n then 1 else 0)
    rw [a]
    by_cases q : bt s n
    · rw [if_pos q, if_pos (b.1 q)]
    · rw [if_neg q, if_neg (fun z => q (b.2 z))]
theorem bt_top (s n : Nat) (h : s < 2 ^ n) : ¬ bt (s : Int) (n : Int) := fun z => by
  have := (bt_nat s n).1 z
  rw [Nat.testBit_lt_two_pow h] at this
  cases this
theorem wetF_n (P : Nat → Int) (t : Int) : ∀ n : Nat, ∃ s : Nat, wetF P t n = (s : Int) ∧ s < 2 ^ n ∧ pcn (s : Int) n = cwF P t n
  | 0 => ⟨0, rfl, by decide, rfl⟩
  | n + 1 => by
    obtain ⟨s, h1, h2, h3⟩ := wetF_n P t n
    have e : (2 ^ (n + 1) : Nat) = 2 ^ n * 2 := Nat.pow_succ 2 n
    by_cases q : min (P n) 99 < t
    · refine ⟨2 ^ n + s, ?_, by omega, ?_⟩
      · show (if _ then _ else _) = _
        rw [if_pos q, h1]
        omega
      · show pcn _ n + (if bt _ n then 1 else 0) = cwF P t n + if min (P n) 99 < t then 1 else 0
        have b : bt ((2 ^ n + s : Nat) : Int) (n : Int) := (bt_nat _ _).2 (by rw [Nat.testBit_two_pow_add_eq, Nat.testBit_lt_two_pow h2]; rfl)
        rw [if_pos q, if_pos b, ← h3, pcn_cong (s := ((2 ^ n + s : Nat) : Int)) (r := (s : Int)) n (fun i hi => by rw [bt_nat, bt_nat, Nat.testBit_two_pow_add_gt hi])]
    · refine ⟨s, ?_, by omega, ?_⟩
      · show (if _ then _ else _) = _
        rw [if_neg q, h1]
      · show pcn _ n + (if bt _ n then 1 else 0) = cwF P t n + if min (P n) 99 < t then 1 else 0
        rw [if_neg q, if_neg (bt_top s n h2), h3]
theorem pc_wet (P : Nat → Int) (t : Int) : pc10 (wetF P t 9) = cwF P t 9 := by
  obtain ⟨s, h1, h2, h3⟩ := wetF_n P t 9
  rw [h1]
  show pcn _ 9 + (if bt _ ((9 : Nat) : Int) then 1 else 0) = _
  rw [if_neg (bt_top s 9 h2), h3]
  omega
/-- u is w with one hoop more, of size s -/
def HK (w u : Nat → Int) (n : Nat) (s : Int) : Prop := (∀ j, j ≠ 5 → j ≠ 52 + n → j ≠ 58 + n → j ≠ 64 + n → u j = w j) ∧ u 5 = w 5 + 1 ∧ u (52 + n) = 0 ∧ u (58 + n) = s ∧ u (64 + n) = 0
theorem HK.girE {w u : Nat → Int} {n : Nat} {s : Int} (h : HK w u n s) (x : Int) : gir u x = gir w x := by
  show max 1 (u 0 - u 2 * iAbs (x - 4)) = max 1 (w 0 - w 2 * iAbs (x - 4))
  rw [h.1 0 (by omega) (by omega) (by omega) (by omega), h.1 2 (by omega) (by omega) (by omega) (by omega)]
theorem HK.rstE {w u : Nat → Int} {n : Nat} {s : Int} (h : HK w u n s) (z f : Int) : rst u z f = rst w z f := by
  have a : ∀ (m : Nat) (k : Int), rstF u z f m k = rstF w z f m k := by
    intro m
    induction m with
    | zero => intro k; rfl
    | succ m ih =>
      intro k
      show (if k = f ∨ z ≤ gir u k then k else rstF u z f m (k + 1)) = (if k = f ∨ z ≤ gir w k then k else rstF w z f m (k + 1))
      rw [h.girE, ih]
  exact a 5 0
theorem HK.farE {w u : Nat → Int} {n : Nat} {s : Int} (h : HK w u n s) (hn : n < 6) (side : Int) (d : Nat → Int) : ∀ m : Nat, m ≤ n → far u side d m = far w side d m
  | 0, _ => rfl
  | m + 1, hm => by
    have a := HK.farE h hn side d m (by omega)
    show (if u (64 + m) = side ∧ d m ≠ -5 then min (far u side d m) (d m) else far u side d m) = (if w (64 + m) = side ∧ d m ≠ -5 then min (far w side d m) (d m) else far w side d m)
    rw [a, h.1 (64 + m) (by omega) (by omega) (by omega) (by omega)]
theorem HK.depLE {w u : Nat → Int} {n : Nat} {s : Int} (h : HK w u n s) (hn : n < 6) : ∀ m : Nat, m ≤ n → depL u m = depL w m
  | 0, _ => rfl
  | m + 1, hm => by
    have a := HK.depLE h hn m (by omega)
    funext j
    show (if j = m then rst u (u (58 + m)) (far u (u (64 + m)) (depL u m) m) else depL u m j) = (if j = m then rst w (w (58 + m)) (far w (w (64 + m)) (depL w m) m) else depL w m j)
    rw [a, h.1 (64 + m) (by omega) (by omega) (by omega) (by omega), h.1 (58 + m) (by omega) (by omega) (by omega) (by omega), h.rstE, h.farE hn _ _ m (by omega)]
theorem HK.depE {w u : Nat → Int} {n : Nat} {s : Int} (h : HK w u n s) (hn : n < 6) {j : Nat} (hj : j < n) : dep u j = dep w j := congrFun (h.depLE hn (j + 1) hj) j
theorem HK.depn {w u : Nat → Int} {n : Nat} {s : Int} (h : HK w u n s) (hn : n < 6) : dep u n = rst w s (far w 0 (dep w) n) := by
  rw [dep_is, h.2.2.2.1, h.2.2.2.2, h.rstE, h.farE hn _ _ n (Nat.le_refl _), far_cong n (fun j hj => h.depE hn hj)]
theorem HK.prsE {w u : Nat → Int} {n : Nat} {s : Int} (h : HK w u n s) (hn : n < 6) (x : Nat) : ∀ m : Nat, m ≤ n → prs u m x = prs w m x
  | 0, _ => rfl
  | m + 1, hm => by
    have a := HK.prsE h hn x m (by omega)
    show prs u m x + hprF u m x = prs w m x + hprF w m x
    rw [a]
    unfold hprF grp
    rw [h.depE hn (show m < n by omega), h.1 (64 + m) (by omega) (by omega) (by omega) (by omega), h.1 (58 + m) (by omega) (by omega) (by omega) (by omega), h.1 (52 + m) (by omega) (by omega) (by omega) (by omega), h.girE]
theorem HK.hpr {w u : Nat → Int} {n : Nat} {s : Int} (h : HK w u n s) (hn : n < 6) (x : Int) : hprF u n x = if rst w s (far w 0 (dep w) n) = -5 then 0 else prF (rst w s (far w 0 (dep w) n)) (grp w (rst w s (far w 0 (dep w) n)) s) x := by
  unfold hprF grp
  rw [h.depn hn, h.2.2.1, h.2.2.2.1, h.2.2.2.2, h.girE]
  rfl
/-- how many heights would be wet -/
theorem HK.wet {w u : Nat → Int} {n : Nat} {s : Int} (h : HK w u n s) (hn : n < 6) (hw : nH w = n) (h5 : 0 ≤ w 5) (t : Int) : pc10 (wetF (prs u (nH u)) t 9) = if rst w s (far w 0 (dep w) n) = -5 then pc10 (wetF (prs w n) t 9) else hmF (prs w n) (rst w s (far w 0 (dep w) n)) (grp w (rst w s (far w 0 (dep w) n)) s) t 9 := by
  have e : nH u = n + 1 := by
    have e1 : nH w = (w 5).toNat := rfl
    have e2 : nH u = (u 5).toNat := rfl
    have := h.2.1
    omega
  rw [e, pc_wet]
  by_cases q : rst w s (far w 0 (dep w) n) = -5
  · rw [if_pos q, pc_wet]
    refine cwF_cong 9 (fun j _ => ?_)
    show prs u n j + hprF u n j = prs w n j
    rw [h.hpr hn, if_pos q, h.prsE hn j n (Nat.le_refl _)]
    omega
  · rw [if_neg q, hmF_c]
    refine cwF_cong 9 (fun j _ => ?_)
    show prs u n j + hprF u n j = prs w n j + _
    rw [h.hpr hn, if_neg q, h.prsE hn j n (Nat.le_refl _)]
theorem dryF_le (w : Nat → Int) (P : Nat → Int) (t : Int) : ∀ n : Nat, (dryF w P t n).2 ≤ pc10 (wetF P t 9)
  | 0 => Int.le_refl _
  | n + 1 => by
    have a := dryF_le w P t n
    show (if _ then _ else _ : Int × Int).2 ≤ _
    split
    · show dryS w P t (dryF w P t n).2 n ≤ _
      omega
    · exact a
