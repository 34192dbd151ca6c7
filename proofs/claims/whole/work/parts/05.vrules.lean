/-! THE PLAIN MACHINE'S ROWS, one an instruction -/
theorem ks_ok {g : Gl} {U : State} (h : KS g U) : GOK g := h.1
theorem ks_K {g : Gl} {U : State} (h : KS g U) : va_K (gD g) vwCl (tysG g) U := h.2.2.2.1
theorem lvl_mem (g : Gl) : ∀ (ls : List (Option MV)) (i j : Nat) (v : MV), ls[j]? = some (some v) → (i + j, rv g v) ∈ lvl g i ls
  | [], i, j, v, h => by simp at h
  | none :: t, i, 0, v, h => by simp at h
  | none :: t, i, j + 1, v, h => by
    have := lvl_mem g t (i + 1) j v (by simpa using h)
    rw [show i + (j + 1) = i + 1 + j by omega]
    exact this
  | some w :: t, i, 0, v, h => by
    have e : w = v := by simpa using h
    subst e
    exact List.mem_cons_self
  | some w :: t, i, j + 1, v, h => by
    have := lvl_mem g t (i + 1) j v (by simpa using h)
    rw [show i + (j + 1) = i + 1 + j by omega]
    exact List.mem_cons_of_mem _ this
theorem lvl_of (g : Gl) : ∀ (ls : List (Option MV)) (i : Nat) (q : Nat × Value), q ∈ lvl g i ls → ∃ (j : Nat) (v : MV), ls[j]? = some (some v) ∧ q = (i + j, rv g v)
  | [], i, q, h => by cases h
  | none :: t, i, q, h => by
    obtain ⟨j, v, h1, h2⟩ := lvl_of g t (i + 1) q h
    exact ⟨j + 1, v, by simpa using h1, by rw [h2]; congr 1; omega⟩
  | some w :: t, i, q, h => by
    rcases List.mem_cons.mp h with h | h
    · exact ⟨0, w, rfl, h⟩
    · obtain ⟨j, v, h1, h2⟩ := lvl_of g t (i + 1) q h
      exact ⟨j + 1, v, by simpa using h1, by rw [h2]; congr 1; omega⟩
theorem lvl_at {g : Gl} {la : Array Slot} {nL : Nat} {ls : List (Option MV)} (h : lv_has la nL (lvl g 0 ls)) {i : Nat} {v : MV} (hi : ls[i]? = some (some v)) : la[i]? = some (.val (rv g v)) := by
  have := h.2.2 _ (lvl_mem g ls 0 i v hi)
  rwa [Nat.zero_add] at this
/-- no long stands right ahead of place i -/
def noL (ls : List (Option MV)) : Nat → Bool
  | 0 => true
  | j + 1 => match ls[j]? with
    | some (some (.inr (.inl _))) => false
    | _ => true
theorem lvl_set {g : Gl} {la : Array Slot} {nL : Nat} {ls : List (Option MV)} {i : Nat} {v : MV} (hn : noL ls i = true) (h : lv_has la nL ((i, rv g v) :: (lvl g 0 ls).filter (fun q => !(q.1 == i) && !(q.1 + 1 == i && q.2.category == 2)))) : lv_has la nL (lvl g 0 (ls.set i (some v))) := by
  refine ⟨h.1, h.2.1, fun q hq => h.2.2 q ?_⟩
  obtain ⟨j, w, h1, rfl⟩ := lvl_of g _ _ _ hq
  rw [Nat.zero_add]
  rw [List.getElem?_set] at h1
  by_cases e : i = j
  · subst e
    rw [if_pos rfl] at h1
    by_cases hl : i < ls.length
    · rw [if_pos hl] at h1
      cases h1
      exact List.mem_cons_self
    · rw [if_neg hl] at h1
      cases h1
  · rw [if_neg e] at h1
    refine List.mem_cons_of_mem _ (List.mem_filter.mpr ⟨?_, ?_⟩)
    · have := lvl_mem g ls 0 j w h1
      rwa [Nat.zero_add] at this
    · have e2 : (j == i) = false := by simp; omega
      have e3 : (j + 1 == i && (rv g w).category == 2) = false := by
        by_cases h3 : j + 1 = i
        · subst h3
          simp only [noL] at hn
          rw [h1] at hn
          match w, hn with
          | .inl z, _ => simp [rv, Value.category]
          | .inr (.inr r), _ => have := rv_catq g r; simp [this]
        · simp [h3]
      simp [e2, e3]
theorem V_iconst {g : Gl} {mi : MI} {R : Room} {QF : QFT} {pc : Nat} {ls : List (Option MV)} {st : List MV} {k n : Nat} {σ : St} {z : Int} (hd : decode mi.1 pc = .ok (.iconst z, 1)) (kk : V g mi R QF (pc + 1) ls (vi z :: st) k n σ) : V g mi R QF pc ls (st) k n σ := by
  intro p e s m args below meth c H locs la C hH hS hl
  exact lv_iconst C.1 C.2.1 hd rfl (kk p e s m args below meth c H locs la C hH hS hl)
theorem V_bipush {g : Gl} {mi : MI} {R : Room} {QF : QFT} {pc : Nat} {ls : List (Option MV)} {st : List MV} {k n : Nat} {σ : St} {z : Int} (hd : decode mi.1 pc = .ok (.bipush z, 2)) (hv : (Int8.ofInt z).toInt32 = iI z) (kk : V g mi R QF (pc + 2) ls (vi z :: st) k n σ) : V g mi R QF pc ls (st) k n σ := by
  intro p e s m args below meth c H locs la C hH hS hl
  exact lv_bipush C.1 C.2.1 hd hv (kk p e s m args below meth c H locs la C hH hS hl)
theorem V_sipush {g : Gl} {mi : MI} {R : Room} {QF : QFT} {pc : Nat} {ls : List (Option MV)} {st : List MV} {k n : Nat} {σ : St} {z : Int} (hd : decode mi.1 pc = .ok (.sipush z, 3)) (hv : (Int16.ofInt z).toInt32 = iI z) (kk : V g mi R QF (pc + 3) ls (vi z :: st) k n σ) : V g mi R QF pc ls (st) k n σ := by
  intro p e s m args below meth c H locs la C hH hS hl
  exact lv_sipush C.1 C.2.1 hd hv (kk p e s m args below meth c H locs la C hH hS hl)
theorem V_lconst {g : Gl} {mi : MI} {R : Room} {QF : QFT} {pc : Nat} {ls : List (Option MV)} {st : List MV} {k n : Nat} {σ : St} {z : Fin 2} {x : Int64} (hd : decode mi.1 pc = .ok (.lconst z, 1)) (hv : Int64.ofNat (z : Nat) = x) (kk : V g mi R QF (pc + 1) ls (vl x :: st) k n σ) : V g mi R QF pc ls (st) k n σ := by
  intro p e s m args below meth c H locs la C hH hS hl
  exact lv_lconst C.1 C.2.1 hd hv (kk p e s m args below meth c H locs la C hH hS hl)
theorem V_null {g : Gl} {mi : MI} {R : Room} {QF : QFT} {pc : Nat} {ls : List (Option MV)} {st : List MV} {k n : Nat} {σ : St}  (hd : decode mi.1 pc = .ok (.aconst_null, 1)) (kk : V g mi R QF (pc + 1) ls (vq none :: st) k n σ) : V g mi R QF pc ls (st) k n σ := by
  intro p e s m args below meth c H locs la C hH hS hl
  exact lv_null C.1 C.2.1 hd (kk p e s m args below meth c H locs la C hH hS hl)
theorem V_iload_n {g : Gl} {mi : MI} {R : Room} {QF : QFT} {pc : Nat} {ls : List (Option MV)} {st : List MV} {k n : Nat} {σ : St} {i : Fin 4} {x : Int} (hd : decode mi.1 pc = .ok (.iload_n i, 1)) (hi : ls[(i : Nat)]? = some (some (vi x))) (kk : V g mi R QF (pc + 1) ls (vi x :: st) k n σ) : V g mi R QF pc ls (st) k n σ := by
  intro p e s m args below meth c H locs la C hH hS hl
  exact lv_iload_n C.1 C.2.1 hd rfl (lvl_at hl hi) (kk p e s m args below meth c H locs la C hH hS hl)
theorem V_iload {g : Gl} {mi : MI} {R : Room} {QF : QFT} {pc : Nat} {ls : List (Option MV)} {st : List MV} {k n : Nat} {σ : St} {i : Nat} {x : Int} (hd : decode mi.1 pc = .ok (.iload i, 2)) (hi : ls[i]? = some (some (vi x))) (kk : V g mi R QF (pc + 2) ls (vi x :: st) k n σ) : V g mi R QF pc ls (st) k n σ := by
  intro p e s m args below meth c H locs la C hH hS hl
  exact lv_iload C.1 C.2.1 hd (lvl_at hl hi) (kk p e s m args below meth c H locs la C hH hS hl)
theorem V_lload_n {g : Gl} {mi : MI} {R : Room} {QF : QFT} {pc : Nat} {ls : List (Option MV)} {st : List MV} {k n : Nat} {σ : St} {i : Fin 4} {x : Int64} (hd : decode mi.1 pc = .ok (.lload_n i, 1)) (hi : ls[(i : Nat)]? = some (some (vl x))) (kk : V g mi R QF (pc + 1) ls (vl x :: st) k n σ) : V g mi R QF pc ls (st) k n σ := by
  intro p e s m args below meth c H locs la C hH hS hl
  exact lv_lload_n C.1 C.2.1 hd rfl (lvl_at hl hi) (kk p e s m args below meth c H locs la C hH hS hl)
theorem V_aload_n {g : Gl} {mi : MI} {R : Room} {QF : QFT} {pc : Nat} {ls : List (Option MV)} {st : List MV} {k n : Nat} {σ : St} {i : Fin 4} {r : Option Nat} (hd : decode mi.1 pc = .ok (.aload_n i, 1)) (hi : ls[(i : Nat)]? = some (some (vq r))) (kk : V g mi R QF (pc + 1) ls (vq r :: st) k n σ) : V g mi R QF pc ls (st) k n σ := by
  intro p e s m args below meth c H locs la C hH hS hl
  have h1 := lvl_at hl hi
  have h2 := kk p e s m args below meth c H locs la C hH hS hl
  cases r with
  | none => exact lv_aload_nN C.1 C.2.1 hd rfl h1 h2
  | some a => exact lv_aload_n C.1 C.2.1 hd rfl h1 h2
theorem V_aload {g : Gl} {mi : MI} {R : Room} {QF : QFT} {pc : Nat} {ls : List (Option MV)} {st : List MV} {k n : Nat} {σ : St} {i : Nat} {r : Option Nat} (hd : decode mi.1 pc = .ok (.aload i, 2)) (hi : ls[i]? = some (some (vq r))) (kk : V g mi R QF (pc + 2) ls (vq r :: st) k n σ) : V g mi R QF pc ls (st) k n σ := by
  intro p e s m args below meth c H locs la C hH hS hl
  have h1 := lvl_at hl hi
  have h2 := kk p e s m args below meth c H locs la C hH hS hl
  cases r with
  | none => exact lv_aloadN C.1 C.2.1 hd h1 h2
  | some a => exact lv_aload C.1 C.2.1 hd h1 h2
theorem V_istore_n {g : Gl} {mi : MI} {R : Room} {QF : QFT} {pc : Nat} {ls : List (Option MV)} {st : List MV} {k n : Nat} {σ : St} {i : Fin 4} {x : Int} (hd : decode mi.1 pc = .ok (.istore_n i, 1)) (hi : (i : Nat) < mi.2.2.1) (hn : noL ls i = true) (kk : V g mi R QF (pc + 1) (ls.set i (some (vi x))) st k n σ) : V g mi R QF pc ls (vi x :: st) k n σ := by
  intro p e s m args below meth c H locs la C hH hS hl
  exact lv_istore_n C.1 C.2.1 hd rfl hl hi rfl (fun la' hl' => kk p e s m args below meth c H locs la' C hH hS (lvl_set hn hl'))
theorem V_istore {g : Gl} {mi : MI} {R : Room} {QF : QFT} {pc : Nat} {ls : List (Option MV)} {st : List MV} {k n : Nat} {σ : St} {i : Nat} {x : Int} (hd : decode mi.1 pc = .ok (.istore i, 2)) (hi : i < mi.2.2.1) (hn : noL ls i = true) (kk : V g mi R QF (pc + 2) (ls.set i (some (vi x))) st k n σ) : V g mi R QF pc ls (vi x :: st) k n σ := by
  intro p e s m args below meth c H locs la C hH hS hl
  exact lv_istore C.1 C.2.1 hd hl hi rfl (fun la' hl' => kk p e s m args below meth c H locs la' C hH hS (lvl_set hn hl'))
theorem V_astore_n {g : Gl} {mi : MI} {R : Room} {QF : QFT} {pc : Nat} {ls : List (Option MV)} {st : List MV} {k n : Nat} {σ : St} {i : Fin 4} {r : Option Nat} (hd : decode mi.1 pc = .ok (.astore_n i, 1)) (hi : (i : Nat) < mi.2.2.1) (hn : noL ls i = true) (kk : V g mi R QF (pc + 1) (ls.set i (some (vq r))) st k n σ) : V g mi R QF pc ls (vq r :: st) k n σ := by
  intro p e s m args below meth c H locs la C hH hS hl
  cases r with
  | none => exact lv_astore_nN C.1 C.2.1 hd rfl hl hi rfl (fun la' hl' => kk p e s m args below meth c H locs la' C hH hS (lvl_set hn hl'))
  | some a => exact lv_astore_n C.1 C.2.1 hd rfl hl hi rfl (fun la' hl' => kk p e s m args below meth c H locs la' C hH hS (lvl_set hn hl'))
theorem V_astore {g : Gl} {mi : MI} {R : Room} {QF : QFT} {pc : Nat} {ls : List (Option MV)} {st : List MV} {k n : Nat} {σ : St} {i : Nat} {r : Option Nat} (hd : decode mi.1 pc = .ok (.astore i, 2)) (hi : i < mi.2.2.1) (hn : noL ls i = true) (kk : V g mi R QF (pc + 2) (ls.set i (some (vq r))) st k n σ) : V g mi R QF pc ls (vq r :: st) k n σ := by
  intro p e s m args below meth c H locs la C hH hS hl
  cases r with
  | none => exact lv_astoreN C.1 C.2.1 hd hl hi rfl (fun la' hl' => kk p e s m args below meth c H locs la' C hH hS (lvl_set hn hl'))
  | some a => exact lv_astore C.1 C.2.1 hd hl hi rfl (fun la' hl' => kk p e s m args below meth c H locs la' C hH hS (lvl_set hn hl'))
theorem V_iinc {g : Gl} {mi : MI} {R : Room} {QF : QFT} {pc : Nat} {ls : List (Option MV)} {st : List MV} {k n : Nat} {σ : St} {i : Nat} {x z : Int} (hd : decode mi.1 pc = .ok (.iinc i z, 3)) (hx : ls[i]? = some (some (vi x))) (hi : i < mi.2.2.1) (hn : noL ls i = true) (kk : V g mi R QF (pc + 3) (ls.set i (some (vi (x + z)))) st k n σ) : V g mi R QF pc ls st k n σ := by
  intro p e s m args below meth c H locs la C hH hS hl
  obtain ⟨j, hj⟩ := List.getElem?_of_mem (lvl_mem g ls 0 i (vi x) hx)
  rw [Nat.zero_add] at hj
  refine lv_iinc (v := iI (x + z)) C.1 C.2.1 hd hl hj (by rw [iI_add]; rfl) hi rfl (fun la' hl' => kk p e s m args below meth c H locs la' C hH hS (lvl_set (v := vi (x + z)) hn hl'))
theorem V_iadd {g : Gl} {mi : MI} {R : Room} {QF : QFT} {pc : Nat} {ls : List (Option MV)} {st : List MV} {k n : Nat} {σ : St} {x y : Int} (hd : decode mi.1 pc = .ok (.iadd, 1)) (kk : V g mi R QF (pc + 1) ls (vi (x + y) :: st) k n σ) : V g mi R QF pc ls (vi y :: vi x :: st) k n σ := by
  intro p e s m args below meth c H locs la C hH hS hl
  refine lv_iadd C.1 C.2.1 hd ?_
  rw [← iI_add]
  exact kk p e s m args below meth c H locs la C hH hS hl
theorem V_isub {g : Gl} {mi : MI} {R : Room} {QF : QFT} {pc : Nat} {ls : List (Option MV)} {st : List MV} {k n : Nat} {σ : St} {x y : Int} (hd : decode mi.1 pc = .ok (.isub, 1)) (kk : V g mi R QF (pc + 1) ls (vi (x - y) :: st) k n σ) : V g mi R QF pc ls (vi y :: vi x :: st) k n σ := by
  intro p e s m args below meth c H locs la C hH hS hl
  refine lv_isub C.1 C.2.1 hd ?_
  rw [← iI_sub]
  exact kk p e s m args below meth c H locs la C hH hS hl
theorem V_imul {g : Gl} {mi : MI} {R : Room} {QF : QFT} {pc : Nat} {ls : List (Option MV)} {st : List MV} {k n : Nat} {σ : St} {x y : Int} (hd : decode mi.1 pc = .ok (.imul, 1)) (kk : V g mi R QF (pc + 1) ls (vi (x * y) :: st) k n σ) : V g mi R QF pc ls (vi y :: vi x :: st) k n σ := by
  intro p e s m args below meth c H locs la C hH hS hl
  refine lv_imul C.1 C.2.1 hd ?_
  rw [← iI_mul]
  exact kk p e s m args below meth c H locs la C hH hS hl
theorem V_ineg {g : Gl} {mi : MI} {R : Room} {QF : QFT} {pc : Nat} {ls : List (Option MV)} {st : List MV} {k n : Nat} {σ : St} {x : Int} (hd : decode mi.1 pc = .ok (.ineg, 1)) (kk : V g mi R QF (pc + 1) ls (vi (-x) :: st) k n σ) : V g mi R QF pc ls (vi x :: st) k n σ := by
  intro p e s m args below meth c H locs la C hH hS hl
  refine lv_ineg C.1 C.2.1 hd ?_
  rw [← iI_neg]
  exact kk p e s m args below meth c H locs la C hH hS hl
theorem V_idiv {g : Gl} {mi : MI} {R : Room} {QF : QFT} {pc : Nat} {ls : List (Option MV)} {st : List MV} {k n : Nat} {σ : St} {x y : Int} (hd : decode mi.1 pc = .ok (.idiv, 1)) (h : (0 ≤ x ∧ x < 2147483648) ∧ (0 < y ∧ y < 2147483648)) (kk : V g mi R QF (pc + 1) ls (vi (x / y) :: st) k n σ) : V g mi R QF pc ls (vi y :: vi x :: st) k n σ := by
  intro p e s m args below meth c H locs la C hH hS hl
  refine lv_idiv C.1 C.2.1 hd (fun q => absurd ((iI_eq0 ⟨by omega, by omega⟩).mp q) (by omega)) ?_
  rw [iI_div h.1.1 h.1.2 h.2.1 h.2.2]
  exact kk p e s m args below meth c H locs la C hH hS hl
theorem V_irem {g : Gl} {mi : MI} {R : Room} {QF : QFT} {pc : Nat} {ls : List (Option MV)} {st : List MV} {k n : Nat} {σ : St} {x y : Int} (hd : decode mi.1 pc = .ok (.irem, 1)) (h : (0 ≤ x ∧ x < 2147483648) ∧ (0 < y ∧ y < 2147483648)) (kk : V g mi R QF (pc + 1) ls (vi (x % y) :: st) k n σ) : V g mi R QF pc ls (vi y :: vi x :: st) k n σ := by
  intro p e s m args below meth c H locs la C hH hS hl
  refine lv_irem C.1 C.2.1 hd (fun q => absurd ((iI_eq0 ⟨by omega, by omega⟩).mp q) (by omega)) ?_
  rw [iI_rem h.1.1 h.1.2 h.2.1 h.2.2]
  exact kk p e s m args below meth c H locs la C hH hS hl
theorem V_ishl {g : Gl} {mi : MI} {R : Room} {QF : QFT} {pc : Nat} {ls : List (Option MV)} {st : List MV} {k n : Nat} {σ : St} {x y : Int} (hd : decode mi.1 pc = .ok (.ishl, 1)) (h : 0 ≤ y ∧ y < 32) (kk : V g mi R QF (pc + 1) ls (vi (x * 2 ^ y.toNat) :: st) k n σ) : V g mi R QF pc ls (vi y :: vi x :: st) k n σ := by
  intro p e s m args below meth c H locs la C hH hS hl
  refine lv_ishl C.1 C.2.1 hd ?_
  rw [iI_shl h.1 h.2]
  exact kk p e s m args below meth c H locs la C hH hS hl
theorem V_ishr {g : Gl} {mi : MI} {R : Room} {QF : QFT} {pc : Nat} {ls : List (Option MV)} {st : List MV} {k n : Nat} {σ : St} {x y : Int} (hd : decode mi.1 pc = .ok (.ishr, 1)) (h : inR x ∧ (0 ≤ y ∧ y < 32)) (kk : V g mi R QF (pc + 1) ls (vi (x / 2 ^ y.toNat) :: st) k n σ) : V g mi R QF pc ls (vi y :: vi x :: st) k n σ := by
  intro p e s m args below meth c H locs la C hH hS hl
  refine lv_ishr C.1 C.2.1 hd ?_
  rw [iI_shr h.1 h.2.1 h.2.2]
  exact kk p e s m args below meth c H locs la C hH hS hl
/-- and, or of two ints -/
def iAnd (x y : Int) : Int := (iI x &&& iI y).toInt
def iOr (x y : Int) : Int := (iI x ||| iI y).toInt
theorem V_iand1 {g : Gl} {mi : MI} {R : Room} {QF : QFT} {pc : Nat} {ls : List (Option MV)} {st : List MV} {k n : Nat} {σ : St} {x : Int} (hd : decode mi.1 pc = .ok (.iand, 1)) (kk : V g mi R QF (pc + 1) ls (vi (x % 2) :: st) k n σ) : V g mi R QF pc ls (vi 1 :: vi x :: st) k n σ := by
  intro p e s m args below meth c H locs la C hH hS hl
  refine lv_iand C.1 C.2.1 hd ?_
  rw [show iI x &&& iI 1 = iI (x % 2) from iI_and1 x]
  exact kk p e s m args below meth c H locs la C hH hS hl
theorem V_iand {g : Gl} {mi : MI} {R : Room} {QF : QFT} {pc : Nat} {ls : List (Option MV)} {st : List MV} {k n : Nat} {σ : St} {x y : Int} (hd : decode mi.1 pc = .ok (.iand, 1)) (kk : V g mi R QF (pc + 1) ls (vi (iAnd x y) :: st) k n σ) : V g mi R QF pc ls (vi y :: vi x :: st) k n σ := by
  intro p e s m args below meth c H locs la C hH hS hl
  refine lv_iand C.1 C.2.1 hd ?_
  rw [← iI_of (iI x &&& iI y)]
  exact kk p e s m args below meth c H locs la C hH hS hl
theorem V_ior {g : Gl} {mi : MI} {R : Room} {QF : QFT} {pc : Nat} {ls : List (Option MV)} {st : List MV} {k n : Nat} {σ : St} {x y : Int} (hd : decode mi.1 pc = .ok (.ior, 1)) (kk : V g mi R QF (pc + 1) ls (vi (iOr x y) :: st) k n σ) : V g mi R QF pc ls (vi y :: vi x :: st) k n σ := by
  intro p e s m args below meth c H locs la C hH hS hl
  refine lv_ior C.1 C.2.1 hd ?_
  rw [← iI_of (iI x ||| iI y)]
  exact kk p e s m args below meth c H locs la C hH hS hl
theorem V_inot {g : Gl} {mi : MI} {R : Room} {QF : QFT} {pc : Nat} {ls : List (Option MV)} {st : List MV} {k n : Nat} {σ : St} {x : Int} (hd : decode mi.1 pc = .ok (.ixor, 1)) (kk : V g mi R QF (pc + 1) ls (vi (-1 - x) :: st) k n σ) : V g mi R QF pc ls (vi (-1) :: vi x :: st) k n σ := by
  intro p e s m args below meth c H locs la C hH hS hl
  refine lv_ixor C.1 C.2.1 hd ?_
  rw [iI_not]
  exact kk p e s m args below meth c H locs la C hH hS hl
theorem V_i2l {g : Gl} {mi : MI} {R : Room} {QF : QFT} {pc : Nat} {ls : List (Option MV)} {st : List MV} {k n : Nat} {σ : St} {x : Int} (hd : decode mi.1 pc = .ok (.i2l, 1)) (kk : V g mi R QF (pc + 1) ls (vl (iI x).toInt64 :: st) k n σ) : V g mi R QF pc ls (vi x :: st) k n σ := by
  intro p e s m args below meth c H locs la C hH hS hl
  exact lv_i2l C.1 C.2.1 hd rfl (kk p e s m args below meth c H locs la C hH hS hl)
theorem V_l2i {g : Gl} {mi : MI} {R : Room} {QF : QFT} {pc : Nat} {ls : List (Option MV)} {st : List MV} {k n : Nat} {σ : St} {x : Int64} (hd : decode mi.1 pc = .ok (.l2i, 1)) (kk : V g mi R QF (pc + 1) ls (vi x.toInt32.toInt :: st) k n σ) : V g mi R QF pc ls (vl x :: st) k n σ := by
  intro p e s m args below meth c H locs la C hH hS hl
  exact lv_l2i C.1 C.2.1 hd (iI_of _).symm (kk p e s m args below meth c H locs la C hH hS hl)
theorem V_i2b {g : Gl} {mi : MI} {R : Room} {QF : QFT} {pc : Nat} {ls : List (Option MV)} {st : List MV} {k n : Nat} {σ : St} {x : Int} (hd : decode mi.1 pc = .ok (.i2b, 1)) (kk : V g mi R QF (pc + 1) ls (vi (iI x).toInt8.toInt32.toInt :: st) k n σ) : V g mi R QF pc ls (vi x :: st) k n σ := by
  intro p e s m args below meth c H locs la C hH hS hl
  exact lv_i2b C.1 C.2.1 hd (iI_of _).symm (kk p e s m args below meth c H locs la C hH hS hl)
theorem V_ladd {g : Gl} {mi : MI} {R : Room} {QF : QFT} {pc : Nat} {ls : List (Option MV)} {st : List MV} {k n : Nat} {σ : St} {x y : Int64} (hd : decode mi.1 pc = .ok (.ladd, 1)) (kk : V g mi R QF (pc + 1) ls (vl (x + y) :: st) k n σ) : V g mi R QF pc ls (vl y :: vl x :: st) k n σ := by
  intro p e s m args below meth c H locs la C hH hS hl
  exact lv_ladd C.1 C.2.1 hd (kk p e s m args below meth c H locs la C hH hS hl)
theorem V_land {g : Gl} {mi : MI} {R : Room} {QF : QFT} {pc : Nat} {ls : List (Option MV)} {st : List MV} {k n : Nat} {σ : St} {x y : Int64} (hd : decode mi.1 pc = .ok (.land, 1)) (kk : V g mi R QF (pc + 1) ls (vl (x &&& y) :: st) k n σ) : V g mi R QF pc ls (vl y :: vl x :: st) k n σ := by
  intro p e s m args below meth c H locs la C hH hS hl
  exact lv_land C.1 C.2.1 hd (kk p e s m args below meth c H locs la C hH hS hl)
theorem V_lor {g : Gl} {mi : MI} {R : Room} {QF : QFT} {pc : Nat} {ls : List (Option MV)} {st : List MV} {k n : Nat} {σ : St} {x y : Int64} (hd : decode mi.1 pc = .ok (.lor, 1)) (kk : V g mi R QF (pc + 1) ls (vl (x ||| y) :: st) k n σ) : V g mi R QF pc ls (vl y :: vl x :: st) k n σ := by
  intro p e s m args below meth c H locs la C hH hS hl
  exact lv_lor C.1 C.2.1 hd (kk p e s m args below meth c H locs la C hH hS hl)
theorem V_lshl {g : Gl} {mi : MI} {R : Room} {QF : QFT} {pc : Nat} {ls : List (Option MV)} {st : List MV} {k n : Nat} {σ : St} {x : Int64} {y : Int} (hd : decode mi.1 pc = .ok (.lshl, 1)) (kk : V g mi R QF (pc + 1) ls (vl (x <<< ((iI y).toInt64 &&& 63)) :: st) k n σ) : V g mi R QF pc ls (vi y :: vl x :: st) k n σ := by
  intro p e s m args below meth c H locs la C hH hS hl
  exact lv_lshl C.1 C.2.1 hd rfl (kk p e s m args below meth c H locs la C hH hS hl)
theorem V_lcmp {g : Gl} {mi : MI} {R : Room} {QF : QFT} {pc : Nat} {ls : List (Option MV)} {st : List MV} {k n : Nat} {σ : St} {x y : Int64} (hd : decode mi.1 pc = .ok (.lcmp, 1)) (kk : V g mi R QF (pc + 1) ls (vi (lg_cmp x y).toInt :: st) k n σ) : V g mi R QF pc ls (vl y :: vl x :: st) k n σ := by
  intro p e s m args below meth c H locs la C hH hS hl
  refine W.lcmp C.1 C.2.1 hd ?_
  rw [← iI_of (lg_cmp x y)]
  exact kk p e s m args below meth c H locs la C hH hS hl
theorem rv_c1i (g : Gl) (z : Int) : (rv g (vi z)).category = 1 := rfl
/-- of one word -/
def c1 : MV → Bool
  | .inr (.inl _) => false
  | _ => true
theorem rv_c1 {g : Gl} {v : MV} (h : c1 v = true) : (rv g v).category = 1 := by
  match v, h with
  | .inl z, _ => rfl
  | .inr (.inr r), _ => exact rv_catq g r
theorem V_dup {g : Gl} {mi : MI} {R : Room} {QF : QFT} {pc : Nat} {ls : List (Option MV)} {st : List MV} {k n : Nat} {σ : St} {a : MV} (hd : decode mi.1 pc = .ok (.dup, 1)) (h : c1 a = true) (kk : V g mi R QF (pc + 1) ls (a :: a :: st) k n σ) : V g mi R QF pc ls (a :: st) k n σ := by
  intro p e s m args below meth c H locs la C hH hS hl
  exact lv_dup C.1 C.2.1 hd (rv_c1 h) (kk p e s m args below meth c H locs la C hH hS hl)
theorem V_pop {g : Gl} {mi : MI} {R : Room} {QF : QFT} {pc : Nat} {ls : List (Option MV)} {st : List MV} {k n : Nat} {σ : St} {a : MV} (hd : decode mi.1 pc = .ok (.pop, 1)) (h : c1 a = true) (kk : V g mi R QF (pc + 1) ls st k n σ) : V g mi R QF pc ls (a :: st) k n σ := by
  intro p e s m args below meth c H locs la C hH hS hl
  exact lv_pop C.1 C.2.1 hd (rv_c1 h) (kk p e s m args below meth c H locs la C hH hS hl)
theorem V_dup_x1 {g : Gl} {mi : MI} {R : Room} {QF : QFT} {pc : Nat} {ls : List (Option MV)} {st : List MV} {k n : Nat} {σ : St} {a b : MV} (hd : decode mi.1 pc = .ok (.dup_x1, 1)) (h : (c1 a && c1 b) = true) (kk : V g mi R QF (pc + 1) ls (a :: b :: a :: st) k n σ) : V g mi R QF pc ls (a :: b :: st) k n σ := by
  intro p e s m args below meth c H locs la C hH hS hl
  rw [Bool.and_eq_true] at h
  exact lv_dup_x1 C.1 C.2.1 hd (rv_c1 h.1) (rv_c1 h.2) (kk p e s m args below meth c H locs la C hH hS hl)
theorem V_dup_x2 {g : Gl} {mi : MI} {R : Room} {QF : QFT} {pc : Nat} {ls : List (Option MV)} {st : List MV} {k n : Nat} {σ : St} {a b d : MV} (hd : decode mi.1 pc = .ok (.dup_x2, 1)) (h : (c1 a && (c1 b && c1 d)) = true) (kk : V g mi R QF (pc + 1) ls (a :: b :: d :: a :: st) k n σ) : V g mi R QF pc ls (a :: b :: d :: st) k n σ := by
  intro p e s m args below meth c H locs la C hH hS hl
  rw [Bool.and_eq_true, Bool.and_eq_true] at h
  exact lv_dup_x2 C.1 C.2.1 hd (rv_c1 h.1) (rv_c1 h.2.1) (rv_c1 h.2.2) (kk p e s m args below meth c H locs la C hH hS hl)
theorem V_dup2 {g : Gl} {mi : MI} {R : Room} {QF : QFT} {pc : Nat} {ls : List (Option MV)} {st : List MV} {k n : Nat} {σ : St} {a b : MV} (hd : decode mi.1 pc = .ok (.dup2, 1)) (h : (c1 a && c1 b) = true) (kk : V g mi R QF (pc + 1) ls (a :: b :: a :: b :: st) k n σ) : V g mi R QF pc ls (a :: b :: st) k n σ := by
  intro p e s m args below meth c H locs la C hH hS hl
  rw [Bool.and_eq_true] at h
  exact lv_dup2_11 C.1 C.2.1 hd (rv_c1 h.1) (rv_c1 h.2) (kk p e s m args below meth c H locs la C hH hS hl)
theorem V_goto {g : Gl} {mi : MI} {R : Room} {QF : QFT} {pc : Nat} {ls : List (Option MV)} {st : List MV} {k n : Nat} {σ : St} {off : Int} {tgt : Nat} (hd : decode mi.1 pc = .ok (.goto off, 3)) (ht : (pc : Int) + off = (tgt : Int)) (kk : V g mi R QF tgt ls st k n σ) : V g mi R QF pc ls (st) k n σ := by
  intro p e s m args below meth c H locs la C hH hS hl
  exact lv_goto C.1 C.2.1 hd ht (kk p e s m args below meth c H locs la C hH hS hl)
theorem V_ifeq {g : Gl} {mi : MI} {R : Room} {QF : QFT} {pc : Nat} {ls : List (Option MV)} {st : List MV} {k n : Nat} {σ : St} {x : Int} {off : Int} {tgt : Nat} (hd : decode mi.1 pc = .ok (.ifCond .eq off, 3)) (ht : (pc : Int) + off = (tgt : Int)) (hx : inR x) (kt : x = 0 → V g mi R QF tgt ls st k n σ) (kf : ¬ x = 0 → V g mi R QF (pc + 3) ls st k n σ) : V g mi R QF pc ls (vi x :: st) k n σ := by
  intro p e s m args below meth c H locs la C hH hS hl
  exact lv_if_eq C.1 C.2.1 hd ht (fun q => kt ((iI_eq0 hx).mp q) p e s m args below meth c H locs la C hH hS hl) (fun q => kf (fun z => q ((iI_eq0 hx).mpr z)) p e s m args below meth c H locs la C hH hS hl)
theorem V_ifne {g : Gl} {mi : MI} {R : Room} {QF : QFT} {pc : Nat} {ls : List (Option MV)} {st : List MV} {k n : Nat} {σ : St} {x : Int} {off : Int} {tgt : Nat} (hd : decode mi.1 pc = .ok (.ifCond .ne off, 3)) (ht : (pc : Int) + off = (tgt : Int)) (hx : inR x) (kt : x ≠ 0 → V g mi R QF tgt ls st k n σ) (kf : x = 0 → V g mi R QF (pc + 3) ls st k n σ) : V g mi R QF pc ls (vi x :: st) k n σ := by
  intro p e s m args below meth c H locs la C hH hS hl
  exact lv_if_ne C.1 C.2.1 hd ht (fun q => kt (fun z => q ((iI_eq0 hx).mpr z)) p e s m args below meth c H locs la C hH hS hl) (fun q => kf ((iI_eq0 hx).mp q) p e s m args below meth c H locs la C hH hS hl)
theorem V_iflt {g : Gl} {mi : MI} {R : Room} {QF : QFT} {pc : Nat} {ls : List (Option MV)} {st : List MV} {k n : Nat} {σ : St} {x : Int} {off : Int} {tgt : Nat} (hd : decode mi.1 pc = .ok (.ifCond .lt off, 3)) (ht : (pc : Int) + off = (tgt : Int)) (hx : inR x) (kt : x < 0 → V g mi R QF tgt ls st k n σ) (kf : ¬ x < 0 → V g mi R QF (pc + 3) ls st k n σ) : V g mi R QF pc ls (vi x :: st) k n σ := by
  intro p e s m args below meth c H locs la C hH hS hl
  exact lv_if_lt C.1 C.2.1 hd ht (fun q => kt ((iI_lt0 hx).mp q) p e s m args below meth c H locs la C hH hS hl) (fun q => kf (fun z => q ((iI_lt0 hx).mpr z)) p e s m args below meth c H locs la C hH hS hl)
theorem V_ifge {g : Gl} {mi : MI} {R : Room} {QF : QFT} {pc : Nat} {ls : List (Option MV)} {st : List MV} {k n : Nat} {σ : St} {x : Int} {off : Int} {tgt : Nat} (hd : decode mi.1 pc = .ok (.ifCond .ge off, 3)) (ht : (pc : Int) + off = (tgt : Int)) (hx : inR x) (kt : 0 ≤ x → V g mi R QF tgt ls st k n σ) (kf : ¬ 0 ≤ x → V g mi R QF (pc + 3) ls st k n σ) : V g mi R QF pc ls (vi x :: st) k n σ := by
  intro p e s m args below meth c H locs la C hH hS hl
  exact lv_if_ge C.1 C.2.1 hd ht (fun q => kt ((iI_ge0 hx).mp q) p e s m args below meth c H locs la C hH hS hl) (fun q => kf (fun z => q ((iI_ge0 hx).mpr z)) p e s m args below meth c H locs la C hH hS hl)
theorem V_ifgt {g : Gl} {mi : MI} {R : Room} {QF : QFT} {pc : Nat} {ls : List (Option MV)} {st : List MV} {k n : Nat} {σ : St} {x : Int} {off : Int} {tgt : Nat} (hd : decode mi.1 pc = .ok (.ifCond .gt off, 3)) (ht : (pc : Int) + off = (tgt : Int)) (hx : inR x) (kt : 0 < x → V g mi R QF tgt ls st k n σ) (kf : ¬ 0 < x → V g mi R QF (pc + 3) ls st k n σ) : V g mi R QF pc ls (vi x :: st) k n σ := by
  intro p e s m args below meth c H locs la C hH hS hl
  exact lv_if_gt C.1 C.2.1 hd ht (fun q => kt ((iI_gt0 hx).mp q) p e s m args below meth c H locs la C hH hS hl) (fun q => kf (fun z => q ((iI_gt0 hx).mpr z)) p e s m args below meth c H locs la C hH hS hl)
theorem V_ifle {g : Gl} {mi : MI} {R : Room} {QF : QFT} {pc : Nat} {ls : List (Option MV)} {st : List MV} {k n : Nat} {σ : St} {x : Int} {off : Int} {tgt : Nat} (hd : decode mi.1 pc = .ok (.ifCond .le off, 3)) (ht : (pc : Int) + off = (tgt : Int)) (hx : inR x) (kt : x ≤ 0 → V g mi R QF tgt ls st k n σ) (kf : ¬ x ≤ 0 → V g mi R QF (pc + 3) ls st k n σ) : V g mi R QF pc ls (vi x :: st) k n σ := by
  intro p e s m args below meth c H locs la C hH hS hl
  exact lv_if_le C.1 C.2.1 hd ht (fun q => kt ((iI_le0 hx).mp q) p e s m args below meth c H locs la C hH hS hl) (fun q => kf (fun z => q ((iI_le0 hx).mpr z)) p e s m args below meth c H locs la C hH hS hl)
theorem V_icmpeq {g : Gl} {mi : MI} {R : Room} {QF : QFT} {pc : Nat} {ls : List (Option MV)} {st : List MV} {k n : Nat} {σ : St} {x y : Int} {off : Int} {tgt : Nat} (hd : decode mi.1 pc = .ok (.if_icmp .eq off, 3)) (ht : (pc : Int) + off = (tgt : Int)) (hx : inR x) (hy : inR y) (kt : x = y → V g mi R QF tgt ls st k n σ) (kf : ¬ x = y → V g mi R QF (pc + 3) ls st k n σ) : V g mi R QF pc ls (vi y :: vi x :: st) k n σ := by
  intro p e s m args below meth c H locs la C hH hS hl
  exact lv_icmp_eq C.1 C.2.1 hd ht (fun q => kt ((iI_eq hx hy).mp q) p e s m args below meth c H locs la C hH hS hl) (fun q => kf (fun z => q ((iI_eq hx hy).mpr z)) p e s m args below meth c H locs la C hH hS hl)
theorem V_icmpne {g : Gl} {mi : MI} {R : Room} {QF : QFT} {pc : Nat} {ls : List (Option MV)} {st : List MV} {k n : Nat} {σ : St} {x y : Int} {off : Int} {tgt : Nat} (hd : decode mi.1 pc = .ok (.if_icmp .ne off, 3)) (ht : (pc : Int) + off = (tgt : Int)) (hx : inR x) (hy : inR y) (kt : x ≠ y → V g mi R QF tgt ls st k n σ) (kf : x = y → V g mi R QF (pc + 3) ls st k n σ) : V g mi R QF pc ls (vi y :: vi x :: st) k n σ := by
  intro p e s m args below meth c H locs la C hH hS hl
  exact lv_icmp_ne C.1 C.2.1 hd ht (fun q => kt (fun z => q ((iI_eq hx hy).mpr z)) p e s m args below meth c H locs la C hH hS hl) (fun q => kf ((iI_eq hx hy).mp q) p e s m args below meth c H locs la C hH hS hl)
theorem V_icmplt {g : Gl} {mi : MI} {R : Room} {QF : QFT} {pc : Nat} {ls : List (Option MV)} {st : List MV} {k n : Nat} {σ : St} {x y : Int} {off : Int} {tgt : Nat} (hd : decode mi.1 pc = .ok (.if_icmp .lt off, 3)) (ht : (pc : Int) + off = (tgt : Int)) (hx : inR x) (hy : inR y) (kt : x < y → V g mi R QF tgt ls st k n σ) (kf : ¬ x < y → V g mi R QF (pc + 3) ls st k n σ) : V g mi R QF pc ls (vi y :: vi x :: st) k n σ := by
  intro p e s m args below meth c H locs la C hH hS hl
  exact lv_icmp_lt C.1 C.2.1 hd ht (fun q => kt ((iI_lt hx hy).mp q) p e s m args below meth c H locs la C hH hS hl) (fun q => kf (fun z => q ((iI_lt hx hy).mpr z)) p e s m args below meth c H locs la C hH hS hl)
theorem V_icmpge {g : Gl} {mi : MI} {R : Room} {QF : QFT} {pc : Nat} {ls : List (Option MV)} {st : List MV} {k n : Nat} {σ : St} {x y : Int} {off : Int} {tgt : Nat} (hd : decode mi.1 pc = .ok (.if_icmp .ge off, 3)) (ht : (pc : Int) + off = (tgt : Int)) (hx : inR x) (hy : inR y) (kt : y ≤ x → V g mi R QF tgt ls st k n σ) (kf : ¬ y ≤ x → V g mi R QF (pc + 3) ls st k n σ) : V g mi R QF pc ls (vi y :: vi x :: st) k n σ := by
  intro p e s m args below meth c H locs la C hH hS hl
  exact lv_icmp_ge C.1 C.2.1 hd ht (fun q => kt ((iI_le hy hx).mp q) p e s m args below meth c H locs la C hH hS hl) (fun q => kf (fun z => q ((iI_le hy hx).mpr z)) p e s m args below meth c H locs la C hH hS hl)
theorem V_icmpgt {g : Gl} {mi : MI} {R : Room} {QF : QFT} {pc : Nat} {ls : List (Option MV)} {st : List MV} {k n : Nat} {σ : St} {x y : Int} {off : Int} {tgt : Nat} (hd : decode mi.1 pc = .ok (.if_icmp .gt off, 3)) (ht : (pc : Int) + off = (tgt : Int)) (hx : inR x) (hy : inR y) (kt : y < x → V g mi R QF tgt ls st k n σ) (kf : ¬ y < x → V g mi R QF (pc + 3) ls st k n σ) : V g mi R QF pc ls (vi y :: vi x :: st) k n σ := by
  intro p e s m args below meth c H locs la C hH hS hl
  exact lv_icmp_gt C.1 C.2.1 hd ht (fun q => kt ((iI_lt hy hx).mp q) p e s m args below meth c H locs la C hH hS hl) (fun q => kf (fun z => q ((iI_lt hy hx).mpr z)) p e s m args below meth c H locs la C hH hS hl)
theorem V_icmple {g : Gl} {mi : MI} {R : Room} {QF : QFT} {pc : Nat} {ls : List (Option MV)} {st : List MV} {k n : Nat} {σ : St} {x y : Int} {off : Int} {tgt : Nat} (hd : decode mi.1 pc = .ok (.if_icmp .le off, 3)) (ht : (pc : Int) + off = (tgt : Int)) (hx : inR x) (hy : inR y) (kt : x ≤ y → V g mi R QF tgt ls st k n σ) (kf : ¬ x ≤ y → V g mi R QF (pc + 3) ls st k n σ) : V g mi R QF pc ls (vi y :: vi x :: st) k n σ := by
  intro p e s m args below meth c H locs la C hH hS hl
  exact lv_icmp_le C.1 C.2.1 hd ht (fun q => kt ((iI_le hx hy).mp q) p e s m args below meth c H locs la C hH hS hl) (fun q => kf (fun z => q ((iI_le hx hy).mpr z)) p e s m args below meth c H locs la C hH hS hl)
theorem V_ifnull {g : Gl} {mi : MI} {R : Room} {QF : QFT} {pc : Nat} {ls : List (Option MV)} {st : List MV} {k n : Nat} {σ : St} {r : Option Nat} {off : Int} {tgt : Nat} (hd : decode mi.1 pc = .ok (.ifnull off, 3)) (ht : (pc : Int) + off = (tgt : Int)) (kt : r = none → V g mi R QF tgt ls st k n σ) (kf : ∀ a, r = some a → V g mi R QF (pc + 3) ls st k n σ) : V g mi R QF pc ls (vq r :: st) k n σ := by
  intro p e s m args below meth c H locs la C hH hS hl
  cases r with
  | none => exact lv_ifnullN C.1 C.2.1 hd ht (kt rfl p e s m args below meth c H locs la C hH hS hl)
  | some a => exact lv_ifnull C.1 C.2.1 hd (kf a rfl p e s m args below meth c H locs la C hH hS hl)
theorem V_ifnonnull {g : Gl} {mi : MI} {R : Room} {QF : QFT} {pc : Nat} {ls : List (Option MV)} {st : List MV} {k n : Nat} {σ : St} {r : Option Nat} {off : Int} {tgt : Nat} (hd : decode mi.1 pc = .ok (.ifnonnull off, 3)) (ht : (pc : Int) + off = (tgt : Int)) (kt : ∀ a, r = some a → V g mi R QF tgt ls st k n σ) (kf : r = none → V g mi R QF (pc + 3) ls st k n σ) : V g mi R QF pc ls (vq r :: st) k n σ := by
  intro p e s m args below meth c H locs la C hH hS hl
  cases r with
  | none => exact lv_ifnonnullN C.1 C.2.1 hd (kf rfl p e s m args below meth c H locs la C hH hS hl)
  | some a => exact lv_ifnonnull C.1 C.2.1 hd ht (kt a rfl p e s m args below meth c H locs la C hH hS hl)
theorem V_tableOut {g : Gl} {mi : MI} {R : Room} {QF : QFT} {pc : Nat} {ls : List (Option MV)} {st : List MV} {k n : Nat} {σ : St} {dflt lo hi : Int} {offs : Array Int} {len : Nat} {x : Int} {tgt : Nat} (hd : decode mi.1 pc = .ok (.tableswitch dflt lo hi offs, len)) (hx : inR x) (h : x < lo ∨ hi < x) (ht : (pc : Int) + dflt = (tgt : Int)) (kk : V g mi R QF tgt ls st k n σ) : V g mi R QF pc ls (vi x :: st) k n σ := by
  intro p e s m args below meth c H locs la C hH hS hl
  exact lv_tableOut C.1 C.2.1 hd (by rw [iI_toInt hx]; exact h) ht (kk p e s m args below meth c H locs la C hH hS hl)
theorem V_tableIn {g : Gl} {mi : MI} {R : Room} {QF : QFT} {pc : Nat} {ls : List (Option MV)} {st : List MV} {k n : Nat} {σ : St} {dflt lo hi : Int} {offs : Array Int} {len : Nat} {x : Int} {off : Int} {tgt : Nat} (hd : decode mi.1 pc = .ok (.tableswitch dflt lo hi offs, len)) (hx : inR x) (h : lo ≤ x ∧ x ≤ hi) (ho : offs[(x - lo).toNat]? = some off) (ht : (pc : Int) + off = (tgt : Int)) (kk : V g mi R QF tgt ls st k n σ) : V g mi R QF pc ls (vi x :: st) k n σ := by
  intro p e s m args below meth c H locs la C hH hS hl
  exact lv_tableIn C.1 C.2.1 hd (by rw [iI_toInt hx]; omega) (by rw [iI_toInt hx]; omega) (by rw [iI_toInt hx]; exact ho) ht (kk p e s m args below meth c H locs la C hH hS hl)
theorem V_lookup {g : Gl} {mi : MI} {R : Room} {QF : QFT} {pc : Nat} {ls : List (Option MV)} {st : List MV} {k n : Nat} {σ : St} {dflt : Int} {ps : Array (Int × Int)} {len : Nat} {x : Int} {off : Int} {tgt : Nat} (hd : decode mi.1 pc = .ok (.lookupswitch dflt ps, len)) (hx : inR x) (hp : (ps.toList.zip (ps.toList.drop 1)).all (fun (a, next) => a.1 < next.1) = true) (ho : Op.lookupswitch.offset ps.toList dflt x = off) (ht : (pc : Int) + off = (tgt : Int)) (kk : V g mi R QF tgt ls st k n σ) : V g mi R QF pc ls (vi x :: st) k n σ := by
  intro p e s m args below meth c H locs la C hH hS hl
  exact lv_lookup C.1 C.2.1 hd hp (by rw [iI_toInt hx]; exact ho) ht (kk p e s m args below meth c H locs la C hH hS hl)
/-- other locals: a part of what is held -/
theorem V_locs {g : Gl} {mi : MI} {R : Room} {QF : QFT} {pc : Nat} {ls ls' : List (Option MV)} {st : List MV} {k n : Nat} {σ : St} (h : ∀ (j : Nat) (v : MV), ls'[j]? = some (some v) → ls[j]? = some (some v)) (kk : V g mi R QF pc ls' st k n σ) : V g mi R QF pc ls st k n σ := by
  intro p e s m args below meth c H locs la C hH hS hl
  refine kk p e s m args below meth c H locs la C hH hS ⟨hl.1, hl.2.1, fun q hq => ?_⟩
  obtain ⟨j, v, h1, rfl⟩ := lvl_of g _ _ _ hq
  exact hl.2.2 _ (lvl_mem g ls 0 j v (h j v h1))
theorem V_more {g : Gl} {mi : MI} {R : Room} {QF : QFT} {pc : Nat} {ls : List (Option MV)} {st : List MV} {k n k' n' : Nat} {σ : St} (h1 : k ≤ k') (h2 : n ≤ n') (kk : V g mi R QF pc ls st k' n' σ) : V g mi R QF pc ls st k n σ :=
  fun p e s m args below meth c H locs la C hH hS hl => W.widen h1 h2 (kk p e s m args below meth c H locs la C hH hS hl)
