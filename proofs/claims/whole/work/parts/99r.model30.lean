/-! the model: used -/
def topL (v : Nat) : Nat → List Int
  | 0 => []
  | m + 1 => ((v / 10 ^ m % 10 : Nat) : Int) :: topL v m
theorem topL_s (v : Nat) : ∀ k : Nat, topL v (k + 1) = topL (v / 10) k ++ [((v % 10 : Nat) : Int)]
  | 0 => by
    show [((v / 10 ^ 0 % 10 : Nat) : Int)] = _
    rw [Nat.pow_zero, Nat.div_one]; rfl
  | k + 1 => by
    show ((v / 10 ^ (k + 1) % 10 : Nat) : Int) :: topL v (k + 1) = ((v / 10 / 10 ^ k % 10 : Nat) : Int) :: (topL (v / 10) k ++ [((v % 10 : Nat) : Int)])
    rw [topL_s v k, Nat.pow_succ, Nat.mul_comm (10 ^ k) 10, Nat.div_div_eq_div_mul]
theorem digs_top : ∀ (k m v : Nat), 10 ^ k ≤ v → v < 10 ^ (k + 1) → k < m → digN m (v : Int) = (topL v (k + 1)).reverse
  | 0, m, v, h1, h2, hm => by
    obtain ⟨q, rfl⟩ : ∃ q, m = q + 1 := ⟨m - 1, by omega⟩
    have a : (10 : Nat) ^ 0 = 1 := rfl
    have b : (10 : Nat) ^ (0 + 1) = 10 := rfl
    rw [digN_m (by omega), topL_s, show (v : Int) / 10 = 0 by omega]
    have e : digN q 0 = [] := by
      cases q with
      | zero => rfl
      | succ q => rfl
    rw [e]
    rfl
  | k + 1, m, v, h1, h2, hm => by
    obtain ⟨q, rfl⟩ : ∃ q, m = q + 1 := ⟨m - 1, by omega⟩
    have a : (10 : Nat) ^ (k + 1) = 10 ^ k * 10 := Nat.pow_succ 10 k
    have b : (10 : Nat) ^ (k + 1 + 1) = 10 ^ (k + 1) * 10 := Nat.pow_succ 10 (k + 1)
    have c : 1 ≤ 10 ^ k := Nat.pos_of_ne_zero (fun z => by rw [z] at a; omega)
    have ih := digs_top k q (v / 10) (by omega) (by omega) (by omega)
    rw [digN_m (by omega), topL_s, List.reverse_append, show (v : Int) / 10 = ((v / 10 : Nat) : Int) by omega, ih]
    rfl
theorem okD_iff (n : Nat) : ∀ (l : List Int) (seen : Nat), okD n l seen = true ↔ (∀ d ∈ l, (0 ≤ d - 1 ∧ d - 1 < n) ∧ seen.testBit (d - 1).toNat = false) ∧ l.Nodup
  | [], seen => ⟨fun _ => ⟨fun d hd => (by cases hd), List.nodup_nil⟩, fun _ => rfl⟩
  | d :: t, seen => by
    have ih := okD_iff n t (seen ||| 2 ^ (d - 1).toNat)
    have e : okD n (d :: t) seen = true ↔ ((0 ≤ d - 1 ∧ d - 1 < n) ∧ seen.testBit (d - 1).toNat = false) ∧ okD n t (seen ||| 2 ^ (d - 1).toNat) = true := by
      show (decide (0 ≤ d - 1) && (decide (d - 1 < (n : Int)) && (!(seen.testBit (d - 1).toNat) && okD n t (seen ||| 2 ^ (d - 1).toNat)))) = true ↔ _
      simp only [Bool.and_eq_true, decide_eq_true_iff, Bool.not_eq_true']
      exact ⟨fun z => ⟨⟨⟨z.1, z.2.1⟩, z.2.2.1⟩, z.2.2.2⟩, fun z => ⟨z.1.1.1, z.1.1.2, z.1.2, z.2⟩⟩
    rw [e, ih, List.nodup_cons]
    constructor
    · rintro ⟨h1, h2, h3⟩
      refine ⟨fun x hx => ?_, fun hx => ?_, h3⟩
      · rcases List.mem_cons.mp hx with q | q
        · subst q; exact h1
        · refine ⟨(h2 x q).1, ?_⟩
          have z := (h2 x q).2
          rw [Nat.testBit_or, Bool.or_eq_false_iff] at z
          exact z.1
      · have z := (h2 d hx).2
        rw [Nat.testBit_or, Bool.or_eq_false_iff, Nat.testBit_two_pow_self] at z
        exact absurd z.2 (by decide)
    · rintro ⟨h1, h2, h3⟩
      have h0 := h1 d List.mem_cons_self
      refine ⟨h0, fun x hx => ?_, h3⟩
      have hx1 := h1 x (List.mem_cons_of_mem _ hx)
      refine ⟨hx1.1, ?_⟩
      rw [Nat.testBit_or, Bool.or_eq_false_iff]
      refine ⟨hx1.2, ?_⟩
      rw [Nat.testBit_two_pow]
      refine decide_eq_false (fun z => h2 ?_)
      rw [show d = x by omega]
      exact hx
theorem nd_rev {l : List Int} : l.reverse.Nodup ↔ l.Nodup := by
  unfold List.Nodup
  rw [List.pairwise_reverse]
  exact ⟨fun z => z.imp (fun h => Ne.symm h), fun z => z.imp (fun h => Ne.symm h)⟩
theorem okD_rev {n : Nat} {l : List Int} : okD n l.reverse 0 = true ↔ okD n l 0 = true := by
  rw [okD_iff, okD_iff, nd_rev]
  exact ⟨fun z => ⟨fun d hd => z.1 d (List.mem_reverse.mpr hd), z.2⟩, fun z => ⟨fun d hd => z.1 d (List.mem_reverse.mp hd), z.2⟩⟩
theorem pcn_or (s i : Nat) (h : s.testBit i = false) : ∀ n : Nat, i < n → pcn ((s ||| 2 ^ i : Nat) : Int) n = pcn (s : Int) n + 1
  | 0, hn => absurd hn (Nat.not_lt_zero i)
  | n + 1, hn => by
    have hb : ∀ x : Nat, x ≠ i → (bt ((s ||| 2 ^ i : Nat) : Int) (x : Int) ↔ bt (s : Int) (x : Int)) := fun x hx => by
      rw [bt_nat, bt_nat, Nat.testBit_or, Bool.or_eq_true, Nat.testBit_two_pow, decide_eq_true_iff]
      exact ⟨fun z => z.elim id (fun q => absurd q.symm hx), Or.inl⟩
    show pcn _ n + (if bt _ n then 1 else 0) = pcn _ n + (if bt _ n then 1 else 0) + 1
    by_cases q : n = i
    · subst q
      have b1 : bt ((s ||| 2 ^ n : Nat) : Int) (n : Int) := (bt_nat _ _).2 (by rw [Nat.testBit_or, Nat.testBit_two_pow_self, Bool.or_true])
      have b2 : ¬ bt (s : Int) (n : Int) := fun z => by
        have := (bt_nat s n).1 z
        rw [h] at this
        cases this
      rw [if_pos b1, if_neg b2, pcn_cong (s := ((s ||| 2 ^ n : Nat) : Int)) (r := (s : Int)) n (fun x hx => hb x (by omega))]
      omega
    · have ih := pcn_or s i h n (by omega)
      have e := hb n q
      rw [ih]
      by_cases b : bt (s : Int) (n : Int)
      · rw [if_pos b, if_pos (e.2 b)]
      · rw [if_neg b, if_neg (fun z => b (e.1 z))]; omega
theorem okD_len {n : Nat} : ∀ (l : List Int) (seen : Nat), okD n l seen = true → (l.length : Int) + pcn (seen : Int) n ≤ n
  | [], seen, _ => by
    have := (pcn_b (seen : Int) n).2
    show ((0 : Nat) : Int) + _ ≤ _
    omega
  | d :: t, seen, h => by
    have z := (okD_iff n (d :: t) seen).1 h
    have z0 := z.1 d List.mem_cons_self
    have h2 : okD n t (seen ||| 2 ^ (d - 1).toNat) = true := by
      unfold okD at h
      simp only [Bool.and_eq_true] at h
      exact h.2.2.2
    have ih := okD_len t _ h2
    rw [pcn_or seen (d - 1).toNat z0.2 n (by omega)] at ih
    rw [List.length_cons]
    omega
def mU (w : Nat → Int) (r : Int) (n : Nat) : List Int → Nat → Int → Int → Int
  | [], _, e, a => if 2 * r ≤ e then a else -2
  | d :: t, seen, e, a => if 2 * r ≤ e ∨ ¬ ((0 ≤ d - 1 ∧ d - 1 < n) ∧ seen.testBit (d - 1).toNat = false) then -2 else mU w r n t (seen ||| 2 ^ (d - 1).toNat) (e + wid w (d - 1).toNat) (a + spt r (wid w (d - 1).toNat) e)
theorem mU_ok {w : Nat → Int} {r : Int} {n : Nat} : ∀ (l : List Int) (seen : Nat) (e a : Int), okD n l seen = true → mU w r n l seen e a = uF w r (l.map fun d => (d - 1).toNat) e a
  | [], _, _, _, _ => rfl
  | d :: t, seen, e, a, h => by
    have z0 := ((okD_iff n (d :: t) seen).1 h).1 d List.mem_cons_self
    have h2 : okD n t (seen ||| 2 ^ (d - 1).toNat) = true := by
      unfold okD at h
      simp only [Bool.and_eq_true] at h
      exact h.2.2.2
    show (if _ then _ else _) = (if 2 * r ≤ e then -2 else uF w r (t.map fun d => (d - 1).toNat) (e + wid w (d - 1).toNat) (a + spt r (wid w (d - 1).toNat) e))
    by_cases q : 2 * r ≤ e
    · rw [if_pos q, if_pos (Or.inl q)]
    · rw [if_neg q, if_neg (fun y => y.elim q (fun x => x z0))]
      exact mU_ok t _ _ _ h2
theorem mU_no {w : Nat → Int} {r : Int} {n : Nat} : ∀ (l : List Int) (seen : Nat) (e a : Int), ¬ okD n l seen = true → mU w r n l seen e a = -2
  | [], _, _, _, h => absurd rfl h
  | d :: t, seen, e, a, h => by
    show (if _ then _ else _) = _
    by_cases q : 2 * r ≤ e ∨ ¬ ((0 ≤ d - 1 ∧ d - 1 < n) ∧ seen.testBit (d - 1).toNat = false)
    · rw [if_pos q]
    · rw [if_neg q]
      refine mU_no t _ _ _ (fun z => h ?_)
      have y : (0 ≤ d - 1 ∧ d - 1 < n) ∧ seen.testBit (d - 1).toNat = false := by
        by_cases x : (0 ≤ d - 1 ∧ d - 1 < n) ∧ seen.testBit (d - 1).toNat = false
        · exact x
        · exact absurd (Or.inr x) q
      unfold okD
      rw [decide_eq_true y.1.1, decide_eq_true y.1.2, y.2, z]
      rfl
theorem mU_u {w : Nat → Int} {r : Int} {n : Nat} {v : Int} (hr : 1 ≤ r) (hn : n ≤ 7) {D : List Int} (hD : digs v = D.reverse) (h1 : 1 ≤ D.length) : mU w r n D 0 0 0 = uF w r (spell v n 7) 0 0 := by
  by_cases q : okD n D 0 = true
  · have q2 : okD n D.reverse 0 = true := okD_rev.2 q
    have q3 := okD_len D 0 q
    have q4 := (pcn_b ((0 : Nat) : Int) n).1
    have e : spell v n 7 = ((digs v).map fun d => (d - 1).toNat).reverse := if_pos ⟨by rw [hD, List.length_reverse]; exact h1, by rw [hD, List.length_reverse]; omega, by rw [hD]; exact q2⟩
    rw [e, hD, List.map_reverse, List.reverse_reverse]
    exact mU_ok D 0 0 0 q
  · have e : spell v n 7 = [] := if_neg (fun z => q (okD_rev.1 (by rw [← hD]; exact z.2.2)))
    rw [e, mU_no D 0 0 0 q]
    exact (if_neg (show ¬ 2 * r ≤ 0 by omega)).symm
def tn : Nat → Nat
  | 0 => 0
  | m + 1 => 10 ^ m
theorem tn_d : ∀ m : Nat, 10 ^ m / 10 = tn m
  | 0 => rfl
  | m + 1 => by rw [Nat.pow_succ]; exact Nat.mul_div_cancel _ (by decide)
