/-! rings: the least way on through what is left, and back; the ways within a room; the first of the least -/
def mem (s n : Nat) : List Nat := (List.range n).filter (fun i => s.testBit i)
def drp (l : List Nat) (s : Nat) : List Nat := l.filter (fun j => decide (j ≠ s))
def minL : List Int → Int
  | [] => 2147483647
  | a :: t => min a (minL t)
def sumL : List Int → Int
  | [] => 0
  | a :: t => a + sumL t
def opc (wd : Bool) (a b : Int) : Int := if wd = true then max a b else a + b
def mn (wd : Bool) (c : Nat → Nat → Int) (f : Nat) : Nat → List Nat → Nat → Int
  | 0, _, x => c x f
  | k + 1, l, x => minL (l.map fun s => opc wd (c x s) (mn wd c f k (drp l s) s))
def ct (c : Nat → Nat → Int) (f : Nat) : Nat → List Nat → Nat → Int → Int
  | 0, _, x, r => if c x f ≤ r then 1 else 0
  | k + 1, l, x, r => sumL (l.map fun s => ct c f k (drp l s) s (r - c x s))
def nxt (c : Nat → Nat → Int) (f k : Nat) (l : List Nat) (x : Nat) : Nat := (l.find? fun s => decide (opc false (c x s) (mn false c f k (drp l s) s) = mn false c f (k + 1) l x)).getD 0
def ar (c : Nat → Nat → Int) (f : Nat) : Nat → List Nat → Nat → List Nat
  | 0, _, _ => []
  | k + 1, l, x => nxt c f k l x :: ar c f k (drp l (nxt c f k l x)) (nxt c f k l x)
theorem mem_in {s n i : Nat} : i ∈ mem s n ↔ i < n ∧ s.testBit i = true := by
  unfold mem
  rw [List.mem_filter, List.mem_range]
theorem mem_s (s n : Nat) : mem s (n + 1) = mem s n ++ (if s.testBit n = true then [n] else []) := by
  unfold mem
  rw [List.range_succ, List.filter_append]
  congr 1
  by_cases h : s.testBit n = true <;> simp [h]
theorem mem_nodup (s n : Nat) : (mem s n).Nodup := List.Pairwise.filter _ List.nodup_range
theorem drp_in {l : List Nat} {s j : Nat} : j ∈ drp l s ↔ j ∈ l ∧ j ≠ s := by
  unfold drp
  rw [List.mem_filter, decide_eq_true_iff]
theorem drp_sub {l : List Nat} {s j : Nat} (h : j ∈ drp l s) : j ∈ l := (drp_in.mp h).1
theorem drp_len {l : List Nat} (hn : l.Nodup) {s : Nat} (hs : s ∈ l) : (drp l s).length + 1 = l.length := by
  induction l with
  | nil => cases hs
  | cons a t ih =>
    rw [List.nodup_cons] at hn
    by_cases h : a = s
    · subst h
      have : drp (a :: t) a = t := by
        unfold drp
        rw [List.filter_cons_of_neg (by simp), List.filter_eq_self]
        intro b hb
        simp
        intro e
        subst e
        exact hn.1 hb
      rw [this]; rfl
    · have hs' : s ∈ t := by
        rcases List.mem_cons.mp hs with e | e
        · exact absurd e.symm h
        · exact e
      have : drp (a :: t) s = a :: drp t s := by
        unfold drp
        rw [List.filter_cons_of_pos (by simp [h])]
      rw [this, List.length_cons, List.length_cons, ih hn.2 hs']
theorem drp_nodup {l : List Nat} (hn : l.Nodup) (s : Nat) : (drp l s).Nodup := List.Pairwise.filter _ hn
theorem minL_app (l : List Int) (a : Int) (ha : a ≤ 2147483647) : minL (l ++ [a]) = min (minL l) a := by
  induction l with
  | nil => show min a 2147483647 = min 2147483647 a; omega
  | cons b t ih => show min b (minL (t ++ [a])) = min (min b (minL t)) a; rw [ih]; omega
theorem sumL_app (l : List Int) (a : Int) : sumL (l ++ [a]) = sumL l + a := by
  induction l with
  | nil => show a + 0 = 0 + a; omega
  | cons b t ih => show b + sumL (t ++ [a]) = b + sumL t + a; rw [ih]; omega
theorem minL_le {l : List Int} {a : Int} (h : a ∈ l) : minL l ≤ a := by
  induction l with
  | nil => cases h
  | cons b t ih =>
    show min b (minL t) ≤ a
    rcases List.mem_cons.mp h with e | e
    · omega
    · have := ih e; omega
theorem minL_in {l : List Int} (h : l ≠ []) (hb : ∀ a ∈ l, a ≤ 2147483647) : minL l ∈ l := by
  induction l with
  | nil => exact absurd rfl h
  | cons b t ih =>
    show min b (minL t) ∈ b :: t
    by_cases ht : t = []
    · subst ht
      have := hb b List.mem_cons_self
      rw [show min b (minL []) = b by show min b 2147483647 = b; omega]
      exact List.mem_cons_self
    · have := ih ht (fun a ha => hb a (List.mem_cons_of_mem _ ha))
      rcases Int.le_total b (minL t) with q | q
      · rw [show min b (minL t) = b by omega]; exact List.mem_cons_self
      · rw [show min b (minL t) = minL t by omega]; exact List.mem_cons_of_mem _ this
theorem minL_lo {l : List Int} {B : Int} (hB : B ≤ 2147483647) (h : ∀ a ∈ l, B ≤ a) : B ≤ minL l := by
  induction l with
  | nil => exact hB
  | cons b t ih =>
    show B ≤ min b (minL t)
    have := h b List.mem_cons_self
    have := ih (fun a ha => h a (List.mem_cons_of_mem _ ha))
    omega
/-- all costs within 0 .. 99 -/
def cOK (c : Nat → Nat → Int) : Prop := ∀ a b, 0 ≤ c a b ∧ c a b ≤ 99
theorem mn_b {wd : Bool} {c : Nat → Nat → Int} (hc : cOK c) (f : Nat) : ∀ (k : Nat) (l : List Nat) (x : Nat), l.Nodup → l.length = k → 0 ≤ mn wd c f k l x ∧ mn wd c f k l x ≤ 99 * (k + 1)
  | 0, l, x, _, _ => by
    have := hc x f
    show 0 ≤ c x f ∧ c x f ≤ _
    omega
  | k + 1, l, x, hn, hl => by
    have hb : ∀ s ∈ l, 0 ≤ opc wd (c x s) (mn wd c f k (drp l s) s) ∧ opc wd (c x s) (mn wd c f k (drp l s) s) ≤ 99 * ((k + 1 : Nat) + 1) := by
      intro s hs
      have h1 := mn_b (wd := wd) hc f k (drp l s) s (drp_nodup hn s) (by have := drp_len hn hs; omega)
      have h2 := hc x s
      unfold opc
      split <;> omega
    refine ⟨minL_lo (by decide) (fun a ha => ?_), ?_⟩
    · obtain ⟨s, hs, rfl⟩ := List.mem_map.mp ha
      exact (hb s hs).1
    · cases l with
      | nil => simp at hl
      | cons a t =>
        have h1 := hb a List.mem_cons_self
        have h2 : minL ((a :: t).map fun s => opc wd (c x s) (mn wd c f k (drp (a :: t) s) s)) ≤ opc wd (c x a) (mn wd c f k (drp (a :: t) a) a) := minL_le (List.mem_map.mpr ⟨a, List.mem_cons_self, rfl⟩)
        show minL _ ≤ _
        omega
/-- the first of the least is there, and is least -/
theorem nxt_ok {c : Nat → Nat → Int} (hc : cOK c) (f k : Nat) (l : List Nat) (x : Nat) (hn : l.Nodup) (hl : l.length = k + 1) (hk : k ≤ 20) : nxt c f k l x ∈ l ∧ c x (nxt c f k l x) + mn false c f k (drp l (nxt c f k l x)) (nxt c f k l x) = mn false c f (k + 1) l x := by
  have hne : (l.map fun s => opc false (c x s) (mn false c f k (drp l s) s)) ≠ [] := by
    intro h
    rw [List.map_eq_nil_iff] at h
    rw [h] at hl
    simp at hl
  have hin := minL_in hne (fun a ha => by
    obtain ⟨s, hs, rfl⟩ := List.mem_map.mp ha
    have h1 := mn_b (wd := false) hc f k (drp l s) s (drp_nodup hn s) (by have := drp_len hn hs; omega)
    have h2 := hc x s
    show c x s + _ ≤ _
    omega)
  obtain ⟨s, hs, he⟩ := List.mem_map.mp hin
  unfold nxt
  cases hf : l.find? (fun s => decide (opc false (c x s) (mn false c f k (drp l s) s) = mn false c f (k + 1) l x)) with
  | none =>
    have := List.find?_eq_none.mp hf s hs
    exact absurd (show opc false (c x s) (mn false c f k (drp l s) s) = mn false c f (k + 1) l x from he) (by simpa using this)
  | some t =>
    have h1 := List.mem_of_find?_eq_some hf
    have h2 := List.find?_some hf
    exact ⟨h1, by simpa [opc] using h2⟩
theorem ar_len (c : Nat → Nat → Int) (f : Nat) : ∀ (k : Nat) (l : List Nat) (x : Nat), (ar c f k l x).length = k
  | 0, _, _ => rfl
  | k + 1, l, x => by
    show (ar c f k _ _).length + 1 = k + 1
    rw [ar_len c f k]
/-- what a way costs, and back to f -/
def way (c : Nat → Nat → Int) (f : Nat) : Nat → List Nat → Int
  | x, [] => c x f
  | x, y :: t => c x y + way c f y t
theorem ar_way {c : Nat → Nat → Int} (hc : cOK c) (f : Nat) : ∀ (k : Nat) (l : List Nat) (x : Nat), l.Nodup → l.length = k → k ≤ 20 → way c f x (ar c f k l x) = mn false c f k l x
  | 0, _, _, _, _, _ => rfl
  | k + 1, l, x, hn, hl, hk => by
    obtain ⟨h1, h2⟩ := nxt_ok hc f k l x hn hl (by omega)
    show c x _ + way c f _ (ar c f k _ _) = _
    rw [ar_way hc f k _ _ (drp_nodup hn _) (by have := drp_len hn h1; omega) (by omega), h2]
theorem ar_in {c : Nat → Nat → Int} (hc : cOK c) (f : Nat) : ∀ (k : Nat) (l : List Nat) (x : Nat), l.Nodup → l.length = k → k ≤ 20 → ∀ y ∈ ar c f k l x, y ∈ l
  | 0, _, _, _, _, _, y, hy => by cases hy
  | k + 1, l, x, hn, hl, hk, y, hy => by
    obtain ⟨h1, h2⟩ := nxt_ok hc f k l x hn hl (by omega)
    rcases List.mem_cons.mp hy with e | e
    · rw [e]; exact h1
    · exact drp_sub (ar_in hc f k _ _ (drp_nodup hn _) (by have := drp_len hn h1; omega) (by omega) y e)
/-- no way is within a room below 0 -/
theorem sumL_0 {α : Type} {l : List α} {h : α → Int} (q : ∀ a ∈ l, h a = 0) : sumL (l.map h) = 0 := by
  induction l with
  | nil => rfl
  | cons a t ih =>
    show h a + sumL (t.map h) = 0
    rw [q a List.mem_cons_self, ih (fun b hb => q b (List.mem_cons_of_mem _ hb))]
    rfl
theorem ct_neg {c : Nat → Nat → Int} (hc : cOK c) (f : Nat) : ∀ (k : Nat) (l : List Nat) (x : Nat) (r : Int), r < 0 → ct c f k l x r = 0
  | 0, l, x, r, h => if_neg (by have := hc x f; omega)
  | k + 1, l, x, r, h => sumL_0 (fun s _ => ct_neg hc f k (drp l s) s (r - c x s) (by have := hc x s; omega))
theorem ct_b {c : Nat → Nat → Int} (f : Nat) : ∀ (k : Nat) (l : List Nat) (x : Nat) (r : Int), l.length ≤ 8 → 0 ≤ ct c f k l x r ∧ ct c f k l x r ≤ 8 ^ k
  | 0, l, x, r, _ => by
    show 0 ≤ (if _ then (1 : Int) else 0) ∧ (if _ then (1 : Int) else 0) ≤ 1
    split <;> decide
  | k + 1, l, x, r, hl => by
    have key : ∀ t : List Nat, t.length ≤ 8 → 0 ≤ sumL (t.map fun s => ct c f k (drp l s) s (r - c x s)) ∧ sumL (t.map fun s => ct c f k (drp l s) s (r - c x s)) ≤ t.length * 8 ^ k := by
      intro t
      induction t with
      | nil => intro _; exact ⟨Int.le_refl _, by simp [sumL]⟩
      | cons a t ih =>
        intro ht
        have h1 := ih (by simp at ht; omega)
        have h2 := ct_b f k (drp l a) a (r - c x a) (Nat.le_trans (List.length_filter_le _ _) hl) (c := c)
        show 0 ≤ ct c f k (drp l a) a (r - c x a) + sumL _ ∧ ct c f k (drp l a) a (r - c x a) + sumL _ ≤ ((t.length + 1 : Nat) : Int) * 8 ^ k
        have e : ((t.length + 1 : Nat) : Int) * 8 ^ k = t.length * 8 ^ k + 8 ^ k := by rw [Int.natCast_add, Int.add_mul]; simp
        omega
    have h := key l hl
    have e : (8 : Int) ^ (k + 1) = 8 * 8 ^ k := by rw [Int.pow_succ]; omega
    have h2 : (l.length : Int) * 8 ^ k ≤ 8 * 8 ^ k := Int.mul_le_mul_of_nonneg_right (by omega) (Int.pow_nonneg (by decide))
    show 0 ≤ sumL _ ∧ sumL _ ≤ _
    omega
/-! the same told of places instead -/
theorem drp_map {h : Nat → Nat} {l : List Nat} {s : Nat} (hi : ∀ a ∈ l, h a = h s → a = s) : drp (l.map h) (h s) = (drp l s).map h := by
  unfold drp
  rw [List.filter_map]
  congr 1
  apply List.filter_congr
  intro a ha
  simp only [Function.comp, decide_eq_decide]
  exact ⟨fun q e => q (by rw [e]), fun q e => q (hi a ha e)⟩
theorem mn_map {wd : Bool} {c : Nat → Nat → Int} {h : Nat → Nat} {f : Nat} : ∀ (k : Nat) (l : List Nat) (x : Nat), (∀ a ∈ l, ∀ b ∈ l, h a = h b → a = b) → mn wd c (h f) k (l.map h) (h x) = mn wd (fun a b => c (h a) (h b)) f k l x
  | 0, _, _, _ => rfl
  | k + 1, l, x, hi => by
    show minL ((l.map h).map _) = minL (l.map _)
    rw [List.map_map]
    congr 1
    apply List.map_congr_left
    intro s hs
    show opc wd (c (h x) (h s)) (mn wd c (h f) k (drp (l.map h) (h s)) (h s)) = _
    rw [drp_map (fun a ha => hi a ha s hs), mn_map k (drp l s) s (fun a ha b hb => hi a (drp_sub ha) b (drp_sub hb))]
theorem ct_map {c : Nat → Nat → Int} {h : Nat → Nat} {f : Nat} : ∀ (k : Nat) (l : List Nat) (x : Nat) (r : Int), (∀ a ∈ l, ∀ b ∈ l, h a = h b → a = b) → ct c (h f) k (l.map h) (h x) r = ct (fun a b => c (h a) (h b)) f k l x r
  | 0, _, _, _, _ => rfl
  | k + 1, l, x, r, hi => by
    show sumL ((l.map h).map _) = sumL (l.map _)
    rw [List.map_map]
    congr 1
    apply List.map_congr_left
    intro s hs
    show ct c (h f) k (drp (l.map h) (h s)) (h s) _ = _
    rw [drp_map (fun a ha => hi a ha s hs), ct_map k (drp l s) s _ (fun a ha b hb => hi a (drp_sub ha) b (drp_sub hb))]
theorem find_congr {α : Type} {p q : α → Bool} : ∀ {l : List α}, (∀ a ∈ l, p a = q a) → l.find? p = l.find? q
  | [], _ => rfl
  | a :: t, h => by
    rw [List.find?_cons, List.find?_cons, h a List.mem_cons_self, find_congr (fun b hb => h b (List.mem_cons_of_mem _ hb))]
theorem nxt_map {c : Nat → Nat → Int} (hc : cOK c) {h : Nat → Nat} {f k : Nat} {l : List Nat} {x : Nat} (hi : ∀ a ∈ l, ∀ b ∈ l, h a = h b → a = b) (hn : l.Nodup) (hl : l.length = k + 1) (hk : k ≤ 20) : nxt c (h f) k (l.map h) (h x) = h (nxt (fun a b => c (h a) (h b)) f k l x) := by
  have hm := nxt_ok (c := fun a b => c (h a) (h b)) (fun a b => hc _ _) f k l x hn hl hk
  unfold nxt at hm ⊢
  rw [List.find?_map]
  have e : (l.find? ((fun s => decide (opc false (c (h x) s) (mn false c (h f) k (drp (l.map h) s) s) = mn false c (h f) (k + 1) (l.map h) (h x))) ∘ h)) = l.find? (fun s => decide (opc false (c (h x) (h s)) (mn false (fun a b => c (h a) (h b)) f k (drp l s) s) = mn false (fun a b => c (h a) (h b)) f (k + 1) l x)) := by
    refine find_congr (fun s hs => ?_)
    simp only [Function.comp]
    rw [drp_map (fun a ha => hi a ha s hs), mn_map k (drp l s) s (fun a ha b hb => hi a (drp_sub ha) b (drp_sub hb)), mn_map (k + 1) l x hi]
  rw [e]
  cases hf : l.find? (fun s => decide (opc false (c (h x) (h s)) (mn false (fun a b => c (h a) (h b)) f k (drp l s) s) = mn false (fun a b => c (h a) (h b)) f (k + 1) l x)) with
  | some t => rfl
  | none =>
    exfalso
    rw [hf] at hm
    have h1 := List.find?_eq_none.mp hf 0 hm.1
    exact h1 (by simpa [opc] using hm.2)
theorem ar_map {c : Nat → Nat → Int} (hc : cOK c) {h : Nat → Nat} {f : Nat} : ∀ (k : Nat) (l : List Nat) (x : Nat), (∀ a ∈ l, ∀ b ∈ l, h a = h b → a = b) → l.Nodup → l.length = k → k ≤ 20 → ar c (h f) k (l.map h) (h x) = (ar (fun a b => c (h a) (h b)) f k l x).map h
  | 0, _, _, _, _, _, _ => rfl
  | k + 1, l, x, hi, hn, hl, hk => by
    have hm := nxt_ok (c := fun a b => c (h a) (h b)) (fun a b => hc _ _) f k l x hn hl (by omega)
    show nxt c (h f) k (l.map h) (h x) :: ar c (h f) k _ _ = h _ :: List.map h _
    rw [nxt_map hc hi hn hl (by omega), drp_map (fun a ha => hi a ha _ hm.1), ar_map hc k _ _ (fun a ha b hb => hi a (drp_sub ha) b (drp_sub hb)) (drp_nodup hn _) (by have := drp_len hn hm.1; omega) (by omega)]
