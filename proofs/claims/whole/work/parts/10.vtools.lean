/-! words and rows for the walks (laid by wip/whole/mktools.py) -/
/-- a truth as the machine's int -/
def bI (P : Prop) [Decidable P] : Int := if P then 1 else 0
theorem bI_t {P : Prop} [Decidable P] (h : P) : bI P = 1 := if_pos h
theorem bI_f {P : Prop} [Decidable P] (h : ¬ P) : bI P = 0 := if_neg h
theorem bI_01 (P : Prop) [Decidable P] : bI P = 0 ∨ bI P = 1 := by
  by_cases h : P
  · exact Or.inr (bI_t h)
  · exact Or.inl (bI_f h)
theorem bI_R (P : Prop) [Decidable P] : inR (bI P) := by
  rcases bI_01 P with h | h <;> rw [h] <;> decide
theorem bI_congr {P Q : Prop} [Decidable P] [Decidable Q] (h : P ↔ Q) : bI P = bI Q := by
  by_cases q : Q
  · rw [bI_t q, bI_t (h.mpr q)]
  · rw [bI_f q, bI_f (fun p => q (h.mp p))]
/-- it answers v, and the state is that one -/
def rP (v : MV) (σ : St) : Option MV → St → Prop := fun r σ' => r = some v ∧ σ = σ'
def rV (σ : St) : Option MV → St → Prop := fun r σ' => r = none ∧ σ = σ'
theorem rP_i {σ σ' : St} {a b : Int} (h : a = b) (h2 : σ = σ') : rP (vi b) σ (some (vi a)) σ' := ⟨by rw [h], h2⟩
theorem rP_t {P : Prop} [Decidable P] {σ : St} (h : P) : rP (vi (bI P)) σ (some (vi 1)) σ := ⟨by rw [bI_t h], rfl⟩
theorem rP_f {P : Prop} [Decidable P] {σ : St} (h : ¬ P) : rP (vi (bI P)) σ (some (vi 0)) σ := ⟨by rw [bI_f h], rfl⟩
theorem V_ifeqB {g : Gl} {mi : MI} {R : Room} {QF : QFT} {pc : Nat} {ls : List (Option MV)} {st : List MV} {k n : Nat} {σ : St} {P : Prop} [Decidable P] {off : Int} {tgt : Nat} (hd : decode mi.1 pc = .ok (.ifCond .eq off, 3)) (ht : (pc : Int) + off = (tgt : Int)) (kt : ¬ P → V g mi R QF tgt ls st k n σ) (kf : P → V g mi R QF (pc + 3) ls st k n σ) : V g mi R QF pc ls (vi (bI P) :: st) k n σ := by
  by_cases h : P
  · rw [bI_t h]
    exact V_ifeq hd ht (by decide) (fun q => absurd q (by decide)) (fun _ => kf h)
  · rw [bI_f h]
    exact V_ifeq hd ht (by decide) (fun _ => kt h) (fun q => absurd rfl q)
theorem V_ifneB {g : Gl} {mi : MI} {R : Room} {QF : QFT} {pc : Nat} {ls : List (Option MV)} {st : List MV} {k n : Nat} {σ : St} {P : Prop} [Decidable P] {off : Int} {tgt : Nat} (hd : decode mi.1 pc = .ok (.ifCond .ne off, 3)) (ht : (pc : Int) + off = (tgt : Int)) (kt : P → V g mi R QF tgt ls st k n σ) (kf : ¬ P → V g mi R QF (pc + 3) ls st k n σ) : V g mi R QF pc ls (vi (bI P) :: st) k n σ := by
  by_cases h : P
  · rw [bI_t h]
    exact V_ifne hd ht (by decide) (fun _ => kt h) (fun q => absurd q (by decide))
  · rw [bI_f h]
    exact V_ifne hd ht (by decide) (fun q => absurd rfl q) (fun _ => kf h)
/-- some of the locals alone -/
def maskL : List Bool → List (Option MV) → List (Option MV)
  | true :: m, v :: l => v :: maskL m l
  | false :: m, _ :: l => none :: maskL m l
  | _, _ => []
theorem maskL_at : ∀ (m : List Bool) (l : List (Option MV)) (j : Nat) (v : MV), (maskL m l)[j]? = some (some v) → l[j]? = some (some v)
  | true :: m, w :: l, 0, v, h => h
  | true :: m, w :: l, j + 1, v, h => maskL_at m l j v h
  | false :: m, w :: l, 0, v, h => by simp [maskL] at h
  | false :: m, w :: l, j + 1, v, h => maskL_at m l j v h
  | [], l, j, v, h => by simp [maskL] at h
  | true :: m, [], j, v, h => by simp [maskL] at h
  | false :: m, [], j, v, h => by simp [maskL] at h
theorem V_mask {g : Gl} {mi : MI} {R : Room} {QF : QFT} {pc : Nat} {ls : List (Option MV)} {st : List MV} {k n : Nat} {σ : St}  (m : List Bool) (kk : V g mi R QF pc (maskL m ls) st k n σ) : V g mi R QF pc ls st k n σ := V_locs (maskL_at m ls) kk
theorem V_val {g : Gl} {mi : MI} {R : Room} {QF : QFT} {pc : Nat} {ls : List (Option MV)} {st : List MV} {k n : Nat} {σ : St}  {x y : Int} (h : x = y) (kk : V g mi R QF pc ls (vi y :: st) k n σ) : V g mi R QF pc ls (vi x :: st) k n σ := by rw [h]; exact kk
theorem V_sta {g : Gl} {mi : MI} {R : Room} {QF : QFT} {pc : Nat} {ls : List (Option MV)} {st : List MV} {k n : Nat} {σ : St}  {σ' : St} (h : σ = σ') (kk : V g mi R QF pc ls st k n σ') : V g mi R QF pc ls st k n σ := by rw [h]; exact kk

/-- a number without its sign -/
def iAbs (x : Int) : Int := if x < 0 then -x else x
theorem V_max {g : Gl} {mi : MI} {R : Room} {QF : QFT} {pc : Nat} {ls : List (Option MV)} {st : List MV} {k n : Nat} {σ : St} {idx : Nat} {x y : Int} (hd : decode mi.1 pc = .ok (.invokestatic idx, 3)) (hl0 : Cond.methodLink mi.2.1.cls idx yJ9_max_7cf53 ∈ gTbl) (hR : 1 ≤ R.frames ∧ 41 ≤ R.locals) (hk : k ≤ R.cells ∧ n ≤ R.slots) (hw : wds st ≤ 8) (hx : inR x) (hy : inR y) (kk : V g mi R QF (pc + 3) ls (vi (max x y) :: st) k n σ) : V g mi R QF pc ls (vi y :: vi x :: st) k n σ := by
  intro p e s m args below meth c H locs la C hH hS hl
  have hts := C.2.2.2.2.2.2.1
  refine va_mmax C.1 C.2.1 (C.2.2.1.trans hl.1.symm) C.2.2.2.2.1 (hts _ hl0) (hts _ ss_RX6_31.2.1) (hts _ cs_J9_max_7cf53.2.1) (hts _ (show Cond.code Lib.Math.max.name Lib.Math.max.code 2 (some .int) ∈ gTbl from cs_J9_max_7cf53.1)) hR.1 (by rw [wds_cat]; omega) hk.1 hk.2 hd ?_
  have h := kk p e s m args below meth c H locs la C hH hS hl
  by_cases q : x < y
  · rw [if_pos ((iI_lt hx hy).mpr q)]
    rwa [show max x y = y by omega] at h
  · rw [if_neg (fun z => q ((iI_lt hx hy).mp z))]
    rwa [show max x y = x by omega] at h
theorem V_min {g : Gl} {mi : MI} {R : Room} {QF : QFT} {pc : Nat} {ls : List (Option MV)} {st : List MV} {k n : Nat} {σ : St} {idx : Nat} {x y : Int} (hd : decode mi.1 pc = .ok (.invokestatic idx, 3)) (hl0 : Cond.methodLink mi.2.1.cls idx yJ9_min_7cf53 ∈ gTbl) (hR : 1 ≤ R.frames ∧ 41 ≤ R.locals) (hk : k ≤ R.cells ∧ n ≤ R.slots) (hw : wds st ≤ 8) (hx : inR x) (hy : inR y) (kk : V g mi R QF (pc + 3) ls (vi (min x y) :: st) k n σ) : V g mi R QF pc ls (vi y :: vi x :: st) k n σ := by
  intro p e s m args below meth c H locs la C hH hS hl
  have hts := C.2.2.2.2.2.2.1
  refine va_mmin C.1 C.2.1 (C.2.2.1.trans hl.1.symm) C.2.2.2.2.1 (hts _ hl0) (hts _ ss_RX1_80.2.1) (hts _ cs_J9_min_7cf53.2.1) (hts _ (show Cond.code Lib.Math.min.name Lib.Math.min.code 2 (some .int) ∈ gTbl from cs_J9_min_7cf53.1)) hR.1 (by rw [wds_cat]; omega) hk.1 hk.2 hd ?_
  have h := kk p e s m args below meth c H locs la C hH hS hl
  by_cases q : y < x
  · rw [if_pos ((iI_lt hy hx).mpr q)]
    rwa [show min x y = y by omega] at h
  · rw [if_neg (fun z => q ((iI_lt hy hx).mp z))]
    rwa [show min x y = x by omega] at h
theorem V_abs {g : Gl} {mi : MI} {R : Room} {QF : QFT} {pc : Nat} {ls : List (Option MV)} {st : List MV} {k n : Nat} {σ : St} {idx : Nat} {x : Int} (hd : decode mi.1 pc = .ok (.invokestatic idx, 3)) (hl0 : Cond.methodLink mi.2.1.cls idx yJ9_abs_0f7a4 ∈ gTbl) (hR : 1 ≤ R.frames ∧ 41 ≤ R.locals) (hk : k ≤ R.cells ∧ n ≤ R.slots) (hw : wds st ≤ 8) (hx : inR x) (kk : V g mi R QF (pc + 3) ls (vi (iAbs x) :: st) k n σ) : V g mi R QF pc ls (vi x :: st) k n σ := by
  intro p e s m args below meth c H locs la C hH hS hl
  have hts := C.2.2.2.2.2.2.1
  refine va_mabs C.1 C.2.1 (C.2.2.1.trans hl.1.symm) C.2.2.2.2.1 (hts _ hl0) (hts _ ss_RX5_53.2.1) (hts _ cs_J9_abs_0f7a4.2.1) (hts _ (show Cond.code Lib.Math.abs.name Lib.Math.abs.code 1 (some .int) ∈ gTbl from cs_J9_abs_0f7a4.1)) hR.1 (by rw [wds_cat]; omega) hk.1 hk.2 hd ?_
  have h := kk p e s m args below meth c H locs la C hH hS hl
  unfold iAbs at h
  by_cases q : x < 0
  · rw [if_neg (fun z => by have := (iI_ge0 hx).mp z; omega)]
    rw [if_pos q] at h
    rw [show (0 : Int32) - iI x = iI (-x) by rw [iI_neg]; simp]
    exact h
  · rw [if_pos ((iI_ge0 hx).mpr (by omega))]
    rwa [if_neg q] at h

theorem V_tsw3 {g : Gl} {mi : MI} {R : Room} {QF : QFT} {pc : Nat} {ls : List (Option MV)} {st : List MV} {k n : Nat} {σ : St} {dflt lo hi : Int} {o0 o1 o2 : Int} {len : Nat} {x : Int} {td t0 t1 t2 : Nat} (hd : decode mi.1 pc = .ok (.tableswitch dflt lo hi #[o0, o1, o2], len)) (hx : inR x) (hh : hi = lo + 2) (hdt : (pc : Int) + dflt = (td : Int)) (h0 : (pc : Int) + o0 = (t0 : Int)) (h1 : (pc : Int) + o1 = (t1 : Int)) (h2 : (pc : Int) + o2 = (t2 : Int)) (kd : x < lo ∨ hi < x → V g mi R QF td ls st k n σ) (k0 : x = lo + 0 → V g mi R QF t0 ls st k n σ) (k1 : x = lo + 1 → V g mi R QF t1 ls st k n σ) (k2 : x = lo + 2 → V g mi R QF t2 ls st k n σ) : V g mi R QF pc ls (vi x :: st) k n σ := by
  by_cases hO : x < lo ∨ hi < x
  · exact V_tableOut hd hx hO hdt (kd hO)
  have hI : lo ≤ x ∧ x ≤ hi := by omega
  have hc : x = lo + 0 ∨ x = lo + 1 ∨ x = lo + 2 := by omega
  rcases hc with h | h | h
  · exact V_tableIn (off := o0) hd hx hI (by rw [show (x - lo).toNat = 0 by omega]; rfl) h0 (k0 h)
  · exact V_tableIn (off := o1) hd hx hI (by rw [show (x - lo).toNat = 1 by omega]; rfl) h1 (k1 h)
  · exact V_tableIn (off := o2) hd hx hI (by rw [show (x - lo).toNat = 2 by omega]; rfl) h2 (k2 h)

theorem V_tsw4 {g : Gl} {mi : MI} {R : Room} {QF : QFT} {pc : Nat} {ls : List (Option MV)} {st : List MV} {k n : Nat} {σ : St} {dflt lo hi : Int} {o0 o1 o2 o3 : Int} {len : Nat} {x : Int} {td t0 t1 t2 t3 : Nat} (hd : decode mi.1 pc = .ok (.tableswitch dflt lo hi #[o0, o1, o2, o3], len)) (hx : inR x) (hh : hi = lo + 3) (hdt : (pc : Int) + dflt = (td : Int)) (h0 : (pc : Int) + o0 = (t0 : Int)) (h1 : (pc : Int) + o1 = (t1 : Int)) (h2 : (pc : Int) + o2 = (t2 : Int)) (h3 : (pc : Int) + o3 = (t3 : Int)) (kd : x < lo ∨ hi < x → V g mi R QF td ls st k n σ) (k0 : x = lo + 0 → V g mi R QF t0 ls st k n σ) (k1 : x = lo + 1 → V g mi R QF t1 ls st k n σ) (k2 : x = lo + 2 → V g mi R QF t2 ls st k n σ) (k3 : x = lo + 3 → V g mi R QF t3 ls st k n σ) : V g mi R QF pc ls (vi x :: st) k n σ := by
  by_cases hO : x < lo ∨ hi < x
  · exact V_tableOut hd hx hO hdt (kd hO)
  have hI : lo ≤ x ∧ x ≤ hi := by omega
  have hc : x = lo + 0 ∨ x = lo + 1 ∨ x = lo + 2 ∨ x = lo + 3 := by omega
  rcases hc with h | h | h | h
  · exact V_tableIn (off := o0) hd hx hI (by rw [show (x - lo).toNat = 0 by omega]; rfl) h0 (k0 h)
  · exact V_tableIn (off := o1) hd hx hI (by rw [show (x - lo).toNat = 1 by omega]; rfl) h1 (k1 h)
  · exact V_tableIn (off := o2) hd hx hI (by rw [show (x - lo).toNat = 2 by omega]; rfl) h2 (k2 h)
  · exact V_tableIn (off := o3) hd hx hI (by rw [show (x - lo).toNat = 3 by omega]; rfl) h3 (k3 h)

theorem V_tsw6 {g : Gl} {mi : MI} {R : Room} {QF : QFT} {pc : Nat} {ls : List (Option MV)} {st : List MV} {k n : Nat} {σ : St} {dflt lo hi : Int} {o0 o1 o2 o3 o4 o5 : Int} {len : Nat} {x : Int} {td t0 t1 t2 t3 t4 t5 : Nat} (hd : decode mi.1 pc = .ok (.tableswitch dflt lo hi #[o0, o1, o2, o3, o4, o5], len)) (hx : inR x) (hh : hi = lo + 5) (hdt : (pc : Int) + dflt = (td : Int)) (h0 : (pc : Int) + o0 = (t0 : Int)) (h1 : (pc : Int) + o1 = (t1 : Int)) (h2 : (pc : Int) + o2 = (t2 : Int)) (h3 : (pc : Int) + o3 = (t3 : Int)) (h4 : (pc : Int) + o4 = (t4 : Int)) (h5 : (pc : Int) + o5 = (t5 : Int)) (kd : x < lo ∨ hi < x → V g mi R QF td ls st k n σ) (k0 : x = lo + 0 → V g mi R QF t0 ls st k n σ) (k1 : x = lo + 1 → V g mi R QF t1 ls st k n σ) (k2 : x = lo + 2 → V g mi R QF t2 ls st k n σ) (k3 : x = lo + 3 → V g mi R QF t3 ls st k n σ) (k4 : x = lo + 4 → V g mi R QF t4 ls st k n σ) (k5 : x = lo + 5 → V g mi R QF t5 ls st k n σ) : V g mi R QF pc ls (vi x :: st) k n σ := by
  by_cases hO : x < lo ∨ hi < x
  · exact V_tableOut hd hx hO hdt (kd hO)
  have hI : lo ≤ x ∧ x ≤ hi := by omega
  have hc : x = lo + 0 ∨ x = lo + 1 ∨ x = lo + 2 ∨ x = lo + 3 ∨ x = lo + 4 ∨ x = lo + 5 := by omega
  rcases hc with h | h | h | h | h | h
  · exact V_tableIn (off := o0) hd hx hI (by rw [show (x - lo).toNat = 0 by omega]; rfl) h0 (k0 h)
  · exact V_tableIn (off := o1) hd hx hI (by rw [show (x - lo).toNat = 1 by omega]; rfl) h1 (k1 h)
  · exact V_tableIn (off := o2) hd hx hI (by rw [show (x - lo).toNat = 2 by omega]; rfl) h2 (k2 h)
  · exact V_tableIn (off := o3) hd hx hI (by rw [show (x - lo).toNat = 3 by omega]; rfl) h3 (k3 h)
  · exact V_tableIn (off := o4) hd hx hI (by rw [show (x - lo).toNat = 4 by omega]; rfl) h4 (k4 h)
  · exact V_tableIn (off := o5) hd hx hI (by rw [show (x - lo).toNat = 5 by omega]; rfl) h5 (k5 h)

theorem V_tsw7 {g : Gl} {mi : MI} {R : Room} {QF : QFT} {pc : Nat} {ls : List (Option MV)} {st : List MV} {k n : Nat} {σ : St} {dflt lo hi : Int} {o0 o1 o2 o3 o4 o5 o6 : Int} {len : Nat} {x : Int} {td t0 t1 t2 t3 t4 t5 t6 : Nat} (hd : decode mi.1 pc = .ok (.tableswitch dflt lo hi #[o0, o1, o2, o3, o4, o5, o6], len)) (hx : inR x) (hh : hi = lo + 6) (hdt : (pc : Int) + dflt = (td : Int)) (h0 : (pc : Int) + o0 = (t0 : Int)) (h1 : (pc : Int) + o1 = (t1 : Int)) (h2 : (pc : Int) + o2 = (t2 : Int)) (h3 : (pc : Int) + o3 = (t3 : Int)) (h4 : (pc : Int) + o4 = (t4 : Int)) (h5 : (pc : Int) + o5 = (t5 : Int)) (h6 : (pc : Int) + o6 = (t6 : Int)) (kd : x < lo ∨ hi < x → V g mi R QF td ls st k n σ) (k0 : x = lo + 0 → V g mi R QF t0 ls st k n σ) (k1 : x = lo + 1 → V g mi R QF t1 ls st k n σ) (k2 : x = lo + 2 → V g mi R QF t2 ls st k n σ) (k3 : x = lo + 3 → V g mi R QF t3 ls st k n σ) (k4 : x = lo + 4 → V g mi R QF t4 ls st k n σ) (k5 : x = lo + 5 → V g mi R QF t5 ls st k n σ) (k6 : x = lo + 6 → V g mi R QF t6 ls st k n σ) : V g mi R QF pc ls (vi x :: st) k n σ := by
  by_cases hO : x < lo ∨ hi < x
  · exact V_tableOut hd hx hO hdt (kd hO)
  have hI : lo ≤ x ∧ x ≤ hi := by omega
  have hc : x = lo + 0 ∨ x = lo + 1 ∨ x = lo + 2 ∨ x = lo + 3 ∨ x = lo + 4 ∨ x = lo + 5 ∨ x = lo + 6 := by omega
  rcases hc with h | h | h | h | h | h | h
  · exact V_tableIn (off := o0) hd hx hI (by rw [show (x - lo).toNat = 0 by omega]; rfl) h0 (k0 h)
  · exact V_tableIn (off := o1) hd hx hI (by rw [show (x - lo).toNat = 1 by omega]; rfl) h1 (k1 h)
  · exact V_tableIn (off := o2) hd hx hI (by rw [show (x - lo).toNat = 2 by omega]; rfl) h2 (k2 h)
  · exact V_tableIn (off := o3) hd hx hI (by rw [show (x - lo).toNat = 3 by omega]; rfl) h3 (k3 h)
  · exact V_tableIn (off := o4) hd hx hI (by rw [show (x - lo).toNat = 4 by omega]; rfl) h4 (k4 h)
  · exact V_tableIn (off := o5) hd hx hI (by rw [show (x - lo).toNat = 5 by omega]; rfl) h5 (k5 h)
  · exact V_tableIn (off := o6) hd hx hI (by rw [show (x - lo).toNat = 6 by omega]; rfl) h6 (k6 h)

theorem V_tsw8 {g : Gl} {mi : MI} {R : Room} {QF : QFT} {pc : Nat} {ls : List (Option MV)} {st : List MV} {k n : Nat} {σ : St} {dflt lo hi : Int} {o0 o1 o2 o3 o4 o5 o6 o7 : Int} {len : Nat} {x : Int} {td t0 t1 t2 t3 t4 t5 t6 t7 : Nat} (hd : decode mi.1 pc = .ok (.tableswitch dflt lo hi #[o0, o1, o2, o3, o4, o5, o6, o7], len)) (hx : inR x) (hh : hi = lo + 7) (hdt : (pc : Int) + dflt = (td : Int)) (h0 : (pc : Int) + o0 = (t0 : Int)) (h1 : (pc : Int) + o1 = (t1 : Int)) (h2 : (pc : Int) + o2 = (t2 : Int)) (h3 : (pc : Int) + o3 = (t3 : Int)) (h4 : (pc : Int) + o4 = (t4 : Int)) (h5 : (pc : Int) + o5 = (t5 : Int)) (h6 : (pc : Int) + o6 = (t6 : Int)) (h7 : (pc : Int) + o7 = (t7 : Int)) (kd : x < lo ∨ hi < x → V g mi R QF td ls st k n σ) (k0 : x = lo + 0 → V g mi R QF t0 ls st k n σ) (k1 : x = lo + 1 → V g mi R QF t1 ls st k n σ) (k2 : x = lo + 2 → V g mi R QF t2 ls st k n σ) (k3 : x = lo + 3 → V g mi R QF t3 ls st k n σ) (k4 : x = lo + 4 → V g mi R QF t4 ls st k n σ) (k5 : x = lo + 5 → V g mi R QF t5 ls st k n σ) (k6 : x = lo + 6 → V g mi R QF t6 ls st k n σ) (k7 : x = lo + 7 → V g mi R QF t7 ls st k n σ) : V g mi R QF pc ls (vi x :: st) k n σ := by
  by_cases hO : x < lo ∨ hi < x
  · exact V_tableOut hd hx hO hdt (kd hO)
  have hI : lo ≤ x ∧ x ≤ hi := by omega
  have hc : x = lo + 0 ∨ x = lo + 1 ∨ x = lo + 2 ∨ x = lo + 3 ∨ x = lo + 4 ∨ x = lo + 5 ∨ x = lo + 6 ∨ x = lo + 7 := by omega
  rcases hc with h | h | h | h | h | h | h | h
  · exact V_tableIn (off := o0) hd hx hI (by rw [show (x - lo).toNat = 0 by omega]; rfl) h0 (k0 h)
  · exact V_tableIn (off := o1) hd hx hI (by rw [show (x - lo).toNat = 1 by omega]; rfl) h1 (k1 h)
  · exact V_tableIn (off := o2) hd hx hI (by rw [show (x - lo).toNat = 2 by omega]; rfl) h2 (k2 h)
  · exact V_tableIn (off := o3) hd hx hI (by rw [show (x - lo).toNat = 3 by omega]; rfl) h3 (k3 h)
  · exact V_tableIn (off := o4) hd hx hI (by rw [show (x - lo).toNat = 4 by omega]; rfl) h4 (k4 h)
  · exact V_tableIn (off := o5) hd hx hI (by rw [show (x - lo).toNat = 5 by omega]; rfl) h5 (k5 h)
  · exact V_tableIn (off := o6) hd hx hI (by rw [show (x - lo).toNat = 6 by omega]; rfl) h6 (k6 h)
  · exact V_tableIn (off := o7) hd hx hI (by rw [show (x - lo).toNat = 7 by omega]; rfl) h7 (k7 h)

theorem V_tsw9 {g : Gl} {mi : MI} {R : Room} {QF : QFT} {pc : Nat} {ls : List (Option MV)} {st : List MV} {k n : Nat} {σ : St} {dflt lo hi : Int} {o0 o1 o2 o3 o4 o5 o6 o7 o8 : Int} {len : Nat} {x : Int} {td t0 t1 t2 t3 t4 t5 t6 t7 t8 : Nat} (hd : decode mi.1 pc = .ok (.tableswitch dflt lo hi #[o0, o1, o2, o3, o4, o5, o6, o7, o8], len)) (hx : inR x) (hh : hi = lo + 8) (hdt : (pc : Int) + dflt = (td : Int)) (h0 : (pc : Int) + o0 = (t0 : Int)) (h1 : (pc : Int) + o1 = (t1 : Int)) (h2 : (pc : Int) + o2 = (t2 : Int)) (h3 : (pc : Int) + o3 = (t3 : Int)) (h4 : (pc : Int) + o4 = (t4 : Int)) (h5 : (pc : Int) + o5 = (t5 : Int)) (h6 : (pc : Int) + o6 = (t6 : Int)) (h7 : (pc : Int) + o7 = (t7 : Int)) (h8 : (pc : Int) + o8 = (t8 : Int)) (kd : x < lo ∨ hi < x → V g mi R QF td ls st k n σ) (k0 : x = lo + 0 → V g mi R QF t0 ls st k n σ) (k1 : x = lo + 1 → V g mi R QF t1 ls st k n σ) (k2 : x = lo + 2 → V g mi R QF t2 ls st k n σ) (k3 : x = lo + 3 → V g mi R QF t3 ls st k n σ) (k4 : x = lo + 4 → V g mi R QF t4 ls st k n σ) (k5 : x = lo + 5 → V g mi R QF t5 ls st k n σ) (k6 : x = lo + 6 → V g mi R QF t6 ls st k n σ) (k7 : x = lo + 7 → V g mi R QF t7 ls st k n σ) (k8 : x = lo + 8 → V g mi R QF t8 ls st k n σ) : V g mi R QF pc ls (vi x :: st) k n σ := by
  by_cases hO : x < lo ∨ hi < x
  · exact V_tableOut hd hx hO hdt (kd hO)
  have hI : lo ≤ x ∧ x ≤ hi := by omega
  have hc : x = lo + 0 ∨ x = lo + 1 ∨ x = lo + 2 ∨ x = lo + 3 ∨ x = lo + 4 ∨ x = lo + 5 ∨ x = lo + 6 ∨ x = lo + 7 ∨ x = lo + 8 := by omega
  rcases hc with h | h | h | h | h | h | h | h | h
  · exact V_tableIn (off := o0) hd hx hI (by rw [show (x - lo).toNat = 0 by omega]; rfl) h0 (k0 h)
  · exact V_tableIn (off := o1) hd hx hI (by rw [show (x - lo).toNat = 1 by omega]; rfl) h1 (k1 h)
  · exact V_tableIn (off := o2) hd hx hI (by rw [show (x - lo).toNat = 2 by omega]; rfl) h2 (k2 h)
  · exact V_tableIn (off := o3) hd hx hI (by rw [show (x - lo).toNat = 3 by omega]; rfl) h3 (k3 h)
  · exact V_tableIn (off := o4) hd hx hI (by rw [show (x - lo).toNat = 4 by omega]; rfl) h4 (k4 h)
  · exact V_tableIn (off := o5) hd hx hI (by rw [show (x - lo).toNat = 5 by omega]; rfl) h5 (k5 h)
  · exact V_tableIn (off := o6) hd hx hI (by rw [show (x - lo).toNat = 6 by omega]; rfl) h6 (k6 h)
  · exact V_tableIn (off := o7) hd hx hI (by rw [show (x - lo).toNat = 7 by omega]; rfl) h7 (k7 h)
  · exact V_tableIn (off := o8) hd hx hI (by rw [show (x - lo).toNat = 8 by omega]; rfl) h8 (k8 h)

theorem V_tsw36 {g : Gl} {mi : MI} {R : Room} {QF : QFT} {pc : Nat} {ls : List (Option MV)} {st : List MV} {k n : Nat} {σ : St} {dflt lo hi : Int} {o0 o1 o2 o3 o4 o5 o6 o7 o8 o9 o10 o11 o12 o13 o14 o15 o16 o17 o18 o19 o20 o21 o22 o23 o24 o25 o26 o27 o28 o29 o30 o31 o32 o33 o34 o35 : Int} {len : Nat} {x : Int} {td t0 t1 t2 t3 t4 t5 t6 t7 t8 t9 t10 t11 t12 t13 t14 t15 t16 t17 t18 t19 t20 t21 t22 t23 t24 t25 t26 t27 t28 t29 t30 t31 t32 t33 t34 t35 : Nat} (hd : decode mi.1 pc = .ok (.tableswitch dflt lo hi #[o0, o1, o2, o3, o4, o5, o6, o7, o8, o9, o10, o11, o12, o13, o14, o15, o16, o17, o18, o19, o20, o21, o22, o23, o24, o25, o26, o27, o28, o29, o30, o31, o32, o33, o34, o35], len)) (hx : inR x) (hh : hi = lo + 35) (hdt : (pc : Int) + dflt = (td : Int)) (h0 : (pc : Int) + o0 = (t0 : Int)) (h1 : (pc : Int) + o1 = (t1 : Int)) (h2 : (pc : Int) + o2 = (t2 : Int)) (h3 : (pc : Int) + o3 = (t3 : Int)) (h4 : (pc : Int) + o4 = (t4 : Int)) (h5 : (pc : Int) + o5 = (t5 : Int)) (h6 : (pc : Int) + o6 = (t6 : Int)) (h7 : (pc : Int) + o7 = (t7 : Int)) (h8 : (pc : Int) + o8 = (t8 : Int)) (h9 : (pc : Int) + o9 = (t9 : Int)) (h10 : (pc : Int) + o10 = (t10 : Int)) (h11 : (pc : Int) + o11 = (t11 : Int)) (h12 : (pc : Int) + o12 = (t12 : Int)) (h13 : (pc : Int) + o13 = (t13 : Int)) (h14 : (pc : Int) + o14 = (t14 : Int)) (h15 : (pc : Int) + o15 = (t15 : Int)) (h16 : (pc : Int) + o16 = (t16 : Int)) (h17 : (pc : Int) + o17 = (t17 : Int)) (h18 : (pc : Int) + o18 = (t18 : Int)) (h19 : (pc : Int) + o19 = (t19 : Int)) (h20 : (pc : Int) + o20 = (t20 : Int)) (h21 : (pc : Int) + o21 = (t21 : Int)) (h22 : (pc : Int) + o22 = (t22 : Int)) (h23 : (pc : Int) + o23 = (t23 : Int)) (h24 : (pc : Int) + o24 = (t24 : Int)) (h25 : (pc : Int) + o25 = (t25 : Int)) (h26 : (pc : Int) + o26 = (t26 : Int)) (h27 : (pc : Int) + o27 = (t27 : Int)) (h28 : (pc : Int) + o28 = (t28 : Int)) (h29 : (pc : Int) + o29 = (t29 : Int)) (h30 : (pc : Int) + o30 = (t30 : Int)) (h31 : (pc : Int) + o31 = (t31 : Int)) (h32 : (pc : Int) + o32 = (t32 : Int)) (h33 : (pc : Int) + o33 = (t33 : Int)) (h34 : (pc : Int) + o34 = (t34 : Int)) (h35 : (pc : Int) + o35 = (t35 : Int)) (kd : x < lo ∨ hi < x → V g mi R QF td ls st k n σ) (k0 : x = lo + 0 → V g mi R QF t0 ls st k n σ) (k1 : x = lo + 1 → V g mi R QF t1 ls st k n σ) (k2 : x = lo + 2 → V g mi R QF t2 ls st k n σ) (k3 : x = lo + 3 → V g mi R QF t3 ls st k n σ) (k4 : x = lo + 4 → V g mi R QF t4 ls st k n σ) (k5 : x = lo + 5 → V g mi R QF t5 ls st k n σ) (k6 : x = lo + 6 → V g mi R QF t6 ls st k n σ) (k7 : x = lo + 7 → V g mi R QF t7 ls st k n σ) (k8 : x = lo + 8 → V g mi R QF t8 ls st k n σ) (k9 : x = lo + 9 → V g mi R QF t9 ls st k n σ) (k10 : x = lo + 10 → V g mi R QF t10 ls st k n σ) (k11 : x = lo + 11 → V g mi R QF t11 ls st k n σ) (k12 : x = lo + 12 → V g mi R QF t12 ls st k n σ) (k13 : x = lo + 13 → V g mi R QF t13 ls st k n σ) (k14 : x = lo + 14 → V g mi R QF t14 ls st k n σ) (k15 : x = lo + 15 → V g mi R QF t15 ls st k n σ) (k16 : x = lo + 16 → V g mi R QF t16 ls st k n σ) (k17 : x = lo + 17 → V g mi R QF t17 ls st k n σ) (k18 : x = lo + 18 → V g mi R QF t18 ls st k n σ) (k19 : x = lo + 19 → V g mi R QF t19 ls st k n σ) (k20 : x = lo + 20 → V g mi R QF t20 ls st k n σ) (k21 : x = lo + 21 → V g mi R QF t21 ls st k n σ) (k22 : x = lo + 22 → V g mi R QF t22 ls st k n σ) (k23 : x = lo + 23 → V g mi R QF t23 ls st k n σ) (k24 : x = lo + 24 → V g mi R QF t24 ls st k n σ) (k25 : x = lo + 25 → V g mi R QF t25 ls st k n σ) (k26 : x = lo + 26 → V g mi R QF t26 ls st k n σ) (k27 : x = lo + 27 → V g mi R QF t27 ls st k n σ) (k28 : x = lo + 28 → V g mi R QF t28 ls st k n σ) (k29 : x = lo + 29 → V g mi R QF t29 ls st k n σ) (k30 : x = lo + 30 → V g mi R QF t30 ls st k n σ) (k31 : x = lo + 31 → V g mi R QF t31 ls st k n σ) (k32 : x = lo + 32 → V g mi R QF t32 ls st k n σ) (k33 : x = lo + 33 → V g mi R QF t33 ls st k n σ) (k34 : x = lo + 34 → V g mi R QF t34 ls st k n σ) (k35 : x = lo + 35 → V g mi R QF t35 ls st k n σ) : V g mi R QF pc ls (vi x :: st) k n σ := by
  by_cases hO : x < lo ∨ hi < x
  · exact V_tableOut hd hx hO hdt (kd hO)
  have hI : lo ≤ x ∧ x ≤ hi := by omega
  have hc : x = lo + 0 ∨ x = lo + 1 ∨ x = lo + 2 ∨ x = lo + 3 ∨ x = lo + 4 ∨ x = lo + 5 ∨ x = lo + 6 ∨ x = lo + 7 ∨ x = lo + 8 ∨ x = lo + 9 ∨ x = lo + 10 ∨ x = lo + 11 ∨ x = lo + 12 ∨ x = lo + 13 ∨ x = lo + 14 ∨ x = lo + 15 ∨ x = lo + 16 ∨ x = lo + 17 ∨ x = lo + 18 ∨ x = lo + 19 ∨ x = lo + 20 ∨ x = lo + 21 ∨ x = lo + 22 ∨ x = lo + 23 ∨ x = lo + 24 ∨ x = lo + 25 ∨ x = lo + 26 ∨ x = lo + 27 ∨ x = lo + 28 ∨ x = lo + 29 ∨ x = lo + 30 ∨ x = lo + 31 ∨ x = lo + 32 ∨ x = lo + 33 ∨ x = lo + 34 ∨ x = lo + 35 := by omega
  rcases hc with h | h | h | h | h | h | h | h | h | h | h | h | h | h | h | h | h | h | h | h | h | h | h | h | h | h | h | h | h | h | h | h | h | h | h | h
  · exact V_tableIn (off := o0) hd hx hI (by rw [show (x - lo).toNat = 0 by omega]; rfl) h0 (k0 h)
  · exact V_tableIn (off := o1) hd hx hI (by rw [show (x - lo).toNat = 1 by omega]; rfl) h1 (k1 h)
  · exact V_tableIn (off := o2) hd hx hI (by rw [show (x - lo).toNat = 2 by omega]; rfl) h2 (k2 h)
  · exact V_tableIn (off := o3) hd hx hI (by rw [show (x - lo).toNat = 3 by omega]; rfl) h3 (k3 h)
  · exact V_tableIn (off := o4) hd hx hI (by rw [show (x - lo).toNat = 4 by omega]; rfl) h4 (k4 h)
  · exact V_tableIn (off := o5) hd hx hI (by rw [show (x - lo).toNat = 5 by omega]; rfl) h5 (k5 h)
  · exact V_tableIn (off := o6) hd hx hI (by rw [show (x - lo).toNat = 6 by omega]; rfl) h6 (k6 h)
  · exact V_tableIn (off := o7) hd hx hI (by rw [show (x - lo).toNat = 7 by omega]; rfl) h7 (k7 h)
  · exact V_tableIn (off := o8) hd hx hI (by rw [show (x - lo).toNat = 8 by omega]; rfl) h8 (k8 h)
  · exact V_tableIn (off := o9) hd hx hI (by rw [show (x - lo).toNat = 9 by omega]; rfl) h9 (k9 h)
  · exact V_tableIn (off := o10) hd hx hI (by rw [show (x - lo).toNat = 10 by omega]; rfl) h10 (k10 h)
  · exact V_tableIn (off := o11) hd hx hI (by rw [show (x - lo).toNat = 11 by omega]; rfl) h11 (k11 h)
  · exact V_tableIn (off := o12) hd hx hI (by rw [show (x - lo).toNat = 12 by omega]; rfl) h12 (k12 h)
  · exact V_tableIn (off := o13) hd hx hI (by rw [show (x - lo).toNat = 13 by omega]; rfl) h13 (k13 h)
  · exact V_tableIn (off := o14) hd hx hI (by rw [show (x - lo).toNat = 14 by omega]; rfl) h14 (k14 h)
  · exact V_tableIn (off := o15) hd hx hI (by rw [show (x - lo).toNat = 15 by omega]; rfl) h15 (k15 h)
  · exact V_tableIn (off := o16) hd hx hI (by rw [show (x - lo).toNat = 16 by omega]; rfl) h16 (k16 h)
  · exact V_tableIn (off := o17) hd hx hI (by rw [show (x - lo).toNat = 17 by omega]; rfl) h17 (k17 h)
  · exact V_tableIn (off := o18) hd hx hI (by rw [show (x - lo).toNat = 18 by omega]; rfl) h18 (k18 h)
  · exact V_tableIn (off := o19) hd hx hI (by rw [show (x - lo).toNat = 19 by omega]; rfl) h19 (k19 h)
  · exact V_tableIn (off := o20) hd hx hI (by rw [show (x - lo).toNat = 20 by omega]; rfl) h20 (k20 h)
  · exact V_tableIn (off := o21) hd hx hI (by rw [show (x - lo).toNat = 21 by omega]; rfl) h21 (k21 h)
  · exact V_tableIn (off := o22) hd hx hI (by rw [show (x - lo).toNat = 22 by omega]; rfl) h22 (k22 h)
  · exact V_tableIn (off := o23) hd hx hI (by rw [show (x - lo).toNat = 23 by omega]; rfl) h23 (k23 h)
  · exact V_tableIn (off := o24) hd hx hI (by rw [show (x - lo).toNat = 24 by omega]; rfl) h24 (k24 h)
  · exact V_tableIn (off := o25) hd hx hI (by rw [show (x - lo).toNat = 25 by omega]; rfl) h25 (k25 h)
  · exact V_tableIn (off := o26) hd hx hI (by rw [show (x - lo).toNat = 26 by omega]; rfl) h26 (k26 h)
  · exact V_tableIn (off := o27) hd hx hI (by rw [show (x - lo).toNat = 27 by omega]; rfl) h27 (k27 h)
  · exact V_tableIn (off := o28) hd hx hI (by rw [show (x - lo).toNat = 28 by omega]; rfl) h28 (k28 h)
  · exact V_tableIn (off := o29) hd hx hI (by rw [show (x - lo).toNat = 29 by omega]; rfl) h29 (k29 h)
  · exact V_tableIn (off := o30) hd hx hI (by rw [show (x - lo).toNat = 30 by omega]; rfl) h30 (k30 h)
  · exact V_tableIn (off := o31) hd hx hI (by rw [show (x - lo).toNat = 31 by omega]; rfl) h31 (k31 h)
  · exact V_tableIn (off := o32) hd hx hI (by rw [show (x - lo).toNat = 32 by omega]; rfl) h32 (k32 h)
  · exact V_tableIn (off := o33) hd hx hI (by rw [show (x - lo).toNat = 33 by omega]; rfl) h33 (k33 h)
  · exact V_tableIn (off := o34) hd hx hI (by rw [show (x - lo).toNat = 34 by omega]; rfl) h34 (k34 h)
  · exact V_tableIn (off := o35) hd hx hI (by rw [show (x - lo).toNat = 35 by omega]; rfl) h35 (k35 h)

theorem V_lsw2 {g : Gl} {mi : MI} {R : Room} {QF : QFT} {pc : Nat} {ls : List (Option MV)} {st : List MV} {k n : Nat} {σ : St} {dflt : Int} {c0 c1 o0 o1 : Int} {len : Nat} {x : Int} {td t0 t1 : Nat} (hd : decode mi.1 pc = .ok (.lookupswitch dflt #[(c0, o0), (c1, o1)], len)) (hx : inR x) (hp : ((#[(c0, o0), (c1, o1)] : Array (Int × Int)).toList.zip ((#[(c0, o0), (c1, o1)] : Array (Int × Int)).toList.drop 1)).all (fun (a, next) => a.1 < next.1) = true) (hdt : (pc : Int) + dflt = (td : Int)) (h0 : (pc : Int) + o0 = (t0 : Int)) (h1 : (pc : Int) + o1 = (t1 : Int)) (kd : x ≠ c0 → x ≠ c1 → V g mi R QF td ls st k n σ) (k0 : x = c0 → V g mi R QF t0 ls st k n σ) (k1 : x = c1 → V g mi R QF t1 ls st k n σ) : V g mi R QF pc ls (vi x :: st) k n σ := by
  have e : ∀ (a q d : Int) (r : List (Int × Int)) (y : Int), Op.lookupswitch.offset ((a, q) :: r) d y = if y = a then q else Op.lookupswitch.offset r d y := fun a q d r y => by
    by_cases h : y = a
    · rw [if_pos h, Op.lookupswitch.offset_cons, if_pos h.symm]
    · rw [if_neg h, Op.lookupswitch.offset_cons, if_neg (fun z => h z.symm)]
  by_cases e0 : x = c0
  · refine V_lookup (off := o0) hd hx hp ?_ h0 (k0 e0)
    show Op.lookupswitch.offset [(c0, o0), (c1, o1)] dflt x = o0
    rw [e, if_pos e0]
  by_cases e1 : x = c1
  · refine V_lookup (off := o1) hd hx hp ?_ h1 (k1 e1)
    show Op.lookupswitch.offset [(c0, o0), (c1, o1)] dflt x = o1
    rw [e, if_neg e0, e, if_pos e1]
  refine V_lookup (off := dflt) hd hx hp ?_ hdt (kd e0 e1)
  show Op.lookupswitch.offset [(c0, o0), (c1, o1)] dflt x = dflt
  rw [e, if_neg e0, e, if_neg e1]
  rfl

theorem V_lsw4 {g : Gl} {mi : MI} {R : Room} {QF : QFT} {pc : Nat} {ls : List (Option MV)} {st : List MV} {k n : Nat} {σ : St} {dflt : Int} {c0 c1 c2 c3 o0 o1 o2 o3 : Int} {len : Nat} {x : Int} {td t0 t1 t2 t3 : Nat} (hd : decode mi.1 pc = .ok (.lookupswitch dflt #[(c0, o0), (c1, o1), (c2, o2), (c3, o3)], len)) (hx : inR x) (hp : ((#[(c0, o0), (c1, o1), (c2, o2), (c3, o3)] : Array (Int × Int)).toList.zip ((#[(c0, o0), (c1, o1), (c2, o2), (c3, o3)] : Array (Int × Int)).toList.drop 1)).all (fun (a, next) => a.1 < next.1) = true) (hdt : (pc : Int) + dflt = (td : Int)) (h0 : (pc : Int) + o0 = (t0 : Int)) (h1 : (pc : Int) + o1 = (t1 : Int)) (h2 : (pc : Int) + o2 = (t2 : Int)) (h3 : (pc : Int) + o3 = (t3 : Int)) (kd : x ≠ c0 → x ≠ c1 → x ≠ c2 → x ≠ c3 → V g mi R QF td ls st k n σ) (k0 : x = c0 → V g mi R QF t0 ls st k n σ) (k1 : x = c1 → V g mi R QF t1 ls st k n σ) (k2 : x = c2 → V g mi R QF t2 ls st k n σ) (k3 : x = c3 → V g mi R QF t3 ls st k n σ) : V g mi R QF pc ls (vi x :: st) k n σ := by
  have e : ∀ (a q d : Int) (r : List (Int × Int)) (y : Int), Op.lookupswitch.offset ((a, q) :: r) d y = if y = a then q else Op.lookupswitch.offset r d y := fun a q d r y => by
    by_cases h : y = a
    · rw [if_pos h, Op.lookupswitch.offset_cons, if_pos h.symm]
    · rw [if_neg h, Op.lookupswitch.offset_cons, if_neg (fun z => h z.symm)]
  by_cases e0 : x = c0
  · refine V_lookup (off := o0) hd hx hp ?_ h0 (k0 e0)
    show Op.lookupswitch.offset [(c0, o0), (c1, o1), (c2, o2), (c3, o3)] dflt x = o0
    rw [e, if_pos e0]
  by_cases e1 : x = c1
  · refine V_lookup (off := o1) hd hx hp ?_ h1 (k1 e1)
    show Op.lookupswitch.offset [(c0, o0), (c1, o1), (c2, o2), (c3, o3)] dflt x = o1
    rw [e, if_neg e0, e, if_pos e1]
  by_cases e2 : x = c2
  · refine V_lookup (off := o2) hd hx hp ?_ h2 (k2 e2)
    show Op.lookupswitch.offset [(c0, o0), (c1, o1), (c2, o2), (c3, o3)] dflt x = o2
    rw [e, if_neg e0, e, if_neg e1, e, if_pos e2]
  by_cases e3 : x = c3
  · refine V_lookup (off := o3) hd hx hp ?_ h3 (k3 e3)
    show Op.lookupswitch.offset [(c0, o0), (c1, o1), (c2, o2), (c3, o3)] dflt x = o3
    rw [e, if_neg e0, e, if_neg e1, e, if_neg e2, e, if_pos e3]
  refine V_lookup (off := dflt) hd hx hp ?_ hdt (kd e0 e1 e2 e3)
  show Op.lookupswitch.offset [(c0, o0), (c1, o1), (c2, o2), (c3, o3)] dflt x = dflt
  rw [e, if_neg e0, e, if_neg e1, e, if_neg e2, e, if_neg e3]
  rfl

theorem V_lsw5 {g : Gl} {mi : MI} {R : Room} {QF : QFT} {pc : Nat} {ls : List (Option MV)} {st : List MV} {k n : Nat} {σ : St} {dflt : Int} {c0 c1 c2 c3 c4 o0 o1 o2 o3 o4 : Int} {len : Nat} {x : Int} {td t0 t1 t2 t3 t4 : Nat} (hd : decode mi.1 pc = .ok (.lookupswitch dflt #[(c0, o0), (c1, o1), (c2, o2), (c3, o3), (c4, o4)], len)) (hx : inR x) (hp : ((#[(c0, o0), (c1, o1), (c2, o2), (c3, o3), (c4, o4)] : Array (Int × Int)).toList.zip ((#[(c0, o0), (c1, o1), (c2, o2), (c3, o3), (c4, o4)] : Array (Int × Int)).toList.drop 1)).all (fun (a, next) => a.1 < next.1) = true) (hdt : (pc : Int) + dflt = (td : Int)) (h0 : (pc : Int) + o0 = (t0 : Int)) (h1 : (pc : Int) + o1 = (t1 : Int)) (h2 : (pc : Int) + o2 = (t2 : Int)) (h3 : (pc : Int) + o3 = (t3 : Int)) (h4 : (pc : Int) + o4 = (t4 : Int)) (kd : x ≠ c0 → x ≠ c1 → x ≠ c2 → x ≠ c3 → x ≠ c4 → V g mi R QF td ls st k n σ) (k0 : x = c0 → V g mi R QF t0 ls st k n σ) (k1 : x = c1 → V g mi R QF t1 ls st k n σ) (k2 : x = c2 → V g mi R QF t2 ls st k n σ) (k3 : x = c3 → V g mi R QF t3 ls st k n σ) (k4 : x = c4 → V g mi R QF t4 ls st k n σ) : V g mi R QF pc ls (vi x :: st) k n σ := by
  have e : ∀ (a q d : Int) (r : List (Int × Int)) (y : Int), Op.lookupswitch.offset ((a, q) :: r) d y = if y = a then q else Op.lookupswitch.offset r d y := fun a q d r y => by
    by_cases h : y = a
    · rw [if_pos h, Op.lookupswitch.offset_cons, if_pos h.symm]
    · rw [if_neg h, Op.lookupswitch.offset_cons, if_neg (fun z => h z.symm)]
  by_cases e0 : x = c0
  · refine V_lookup (off := o0) hd hx hp ?_ h0 (k0 e0)
    show Op.lookupswitch.offset [(c0, o0), (c1, o1), (c2, o2), (c3, o3), (c4, o4)] dflt x = o0
    rw [e, if_pos e0]
  by_cases e1 : x = c1
  · refine V_lookup (off := o1) hd hx hp ?_ h1 (k1 e1)
    show Op.lookupswitch.offset [(c0, o0), (c1, o1), (c2, o2), (c3, o3), (c4, o4)] dflt x = o1
    rw [e, if_neg e0, e, if_pos e1]
  by_cases e2 : x = c2
  · refine V_lookup (off := o2) hd hx hp ?_ h2 (k2 e2)
    show Op.lookupswitch.offset [(c0, o0), (c1, o1), (c2, o2), (c3, o3), (c4, o4)] dflt x = o2
    rw [e, if_neg e0, e, if_neg e1, e, if_pos e2]
  by_cases e3 : x = c3
  · refine V_lookup (off := o3) hd hx hp ?_ h3 (k3 e3)
    show Op.lookupswitch.offset [(c0, o0), (c1, o1), (c2, o2), (c3, o3), (c4, o4)] dflt x = o3
    rw [e, if_neg e0, e, if_neg e1, e, if_neg e2, e, if_pos e3]
  by_cases e4 : x = c4
  · refine V_lookup (off := o4) hd hx hp ?_ h4 (k4 e4)
    show Op.lookupswitch.offset [(c0, o0), (c1, o1), (c2, o2), (c3, o3), (c4, o4)] dflt x = o4
    rw [e, if_neg e0, e, if_neg e1, e, if_neg e2, e, if_neg e3, e, if_pos e4]
  refine V_lookup (off := dflt) hd hx hp ?_ hdt (kd e0 e1 e2 e3 e4)
  show Op.lookupswitch.offset [(c0, o0), (c1, o1), (c2, o2), (c3, o3), (c4, o4)] dflt x = dflt
  rw [e, if_neg e0, e, if_neg e1, e, if_neg e2, e, if_neg e3, e, if_neg e4]
  rfl

/-! rows of the heap put together -/
theorem St_ext {σ τ : St} (h1 : gl σ = gl τ) (h2 : gn σ = gn τ) (h3 : gG σ = gG τ) (h4 : gL σ = gL τ) (h5 : gP σ = gP τ) : σ = τ := by
  obtain ⟨a, b, c, d, e⟩ := σ
  obtain ⟨a', b', c', d', e'⟩ := τ
  simp only [gl, gn, gG, gL, gP] at h1 h2 h3 h4 h5
  subst h1; subst h2; subst h3; subst h4; subst h5
  rfl
theorem up1_up1 {α : Type} (f : Nat → α) (k : Nat) (v w : α) : up1 (up1 f k v) k w = up1 f k w := by
  funext j
  by_cases h : j = k <;> simp [up1, h]
theorem up1_same {α : Type} (f : Nat → α) (k : Nat) : up1 f k (f k) = f := by
  funext j
  by_cases h : j = k <;> simp [up1, h]
theorem up1_comm {α : Type} (f : Nat → α) {a b : Nat} (h : a ≠ b) (v w : α) : up1 (up1 f a v) b w = up1 (up1 f b w) a v := by
  funext j
  by_cases h1 : j = a
  · subst h1; simp [up1, h]
  · by_cases h2 : j = b
    · subst h2; simp [up1, Ne.symm h]
    · simp [up1, h1, h2]
theorem up1_at {α : Type} (f : Nat → α) (k : Nat) (v : α) (j : Nat) : up1 f k v j = if j = k then v else f j := rfl
theorem setA_setA (σ : St) (a : Nat) (f h : Nat → Int) : setA (setA σ a f) a h = setA σ a h := St_ext rfl rfl (up1_up1 _ _ _ _) rfl rfl
theorem setA_same (σ : St) (a : Nat) : setA σ a (gG σ a) = σ := St_ext rfl rfl (up1_same _ _) rfl rfl
theorem setA_comm (σ : St) {a b : Nat} (h : b < a) (f e : Nat → Int) : setA (setA σ a f) b e = setA (setA σ b e) a f := St_ext rfl rfl (up1_comm _ (by omega) _ _) rfl rfl
theorem setG_A (σ : St) (a : Nat) (f : Nat → Int) (k : Nat) (v : Int) : setG (setA σ a f) a k v = setA σ a (up1 f k v) := by
  unfold setG
  rw [setA_setA, gG_setA, if_pos rfl]
theorem setP_setP (σ : St) (a : Nat) (f h : Nat → Option Nat) : setP (setP σ a f) a h = setP σ a h := St_ext rfl rfl rfl rfl (up1_up1 _ _ _ _)
theorem setL_setL (σ : St) (a : Nat) (f h : Nat → Int64) : setL (setL σ a f) a h = setL σ a h := St_ext rfl rfl rfl (up1_up1 _ _ _ _) rfl
theorem setL_same (σ : St) (a : Nat) : setL σ a (gL σ a) = σ := St_ext rfl rfl rfl (up1_same _ _) rfl
theorem setP_same (σ : St) (a : Nat) : setP σ a (gP σ a) = σ := St_ext rfl rfl rfl rfl (up1_same _ _)
theorem gG_setG (σ : St) (a k : Nat) (v : Int) (b : Nat) : gG (setG σ a k v) b = if b = a then up1 (gG σ a) k v else gG σ b := rfl
theorem gL_setG (σ : St) (a k : Nat) (v : Int) : gL (setG σ a k v) = gL σ := rfl
theorem gP_setG (σ : St) (a k : Nat) (v : Int) : gP (setG σ a k v) = gP σ := rfl
theorem gl_setG (σ : St) (a k : Nat) (v : Int) : gl (setG σ a k v) = gl σ := rfl
theorem gn_setG (σ : St) (a k : Nat) (v : Int) : gn (setG σ a k v) = gn σ := rfl
/-! the shapes and the final references of what the constructors lay: HoopYard at 8, HoopYardModel at 77 -/
def layT : List (Option Sh) := [none, none, none, none, none, none, none, none,
  some (.inl 10),
  some (.inl 7), some (.inr (3, 9)), some (.inr (4, 6)), some (.inr (5, 7)), some (.inr (0, 4)),
  some (.inl 7), some (.inr (3, 9)), some (.inr (4, 6)), some (.inr (5, 7)), some (.inr (0, 4)),
  some (.inr (6, 6)),
  some (.inl 8), some (.inr (2, 80)), some (.inr (0, 27)), some (.inr (0, 27)), some (.inr (7, 27))] ++ List.replicate 27 (some (.inr (0, 4))) ++ [
  some (.inl 5), some (.inr (0, 512)), some (.inr (0, 512)),
  some (.inl 4), some (.inr (0, 8)), some (.inr (0, 8)), some (.inr (0, 8)), some (.inr (7, 8))] ++ List.replicate 8 (some (.inr (0, 8))) ++ [some (.inr (0, 1024)),
  some (.inl 1), some (.inr (0, 6)), some (.inr (0, 9)),
  some (.inl 2), some (.inr (0, 7)), some (.inr (0, 7)), some (.inr (0, 128)), some (.inr (0, 128)),
  some (.inl 11), some (.inr (0, 77)), some (.inr (0, 77)), some (.inr (0, 77)), some (.inr (0, 80)), some (.inr (0, 200)), some (.inr (0, 9)), some (.inr (0, 9)), some (.inr (0, 7)), some (.inr (0, 7)), some (.inr (0, 6)), some (.inr (0, 6)), some (.inr (0, 6)), some (.inr (0, 6)), some (.inr (1, 180)), some (.inr (1, 30))]
def layF (a : Nat) : Option Sh := layT.getD a none
/-- place, field, what it refers to -/
def refT : List (Nat × List (Option Nat)) := [
  (8, [some 9, some 14, none, some 19, some 20, none, some 52, some 55, some 69, some 72]),
  (9, [some 10, some 11, some 12, some 13]), (14, [some 15, some 16, some 17, some 18]),
  (20, [some 21, some 22, some 23, some 24]), (24, (List.range 27).map fun i => some (25 + i)),
  (52, [some 53, some 54]), (55, [some 56, some 57, some 58, some 59, some 68]), (59, (List.range 8).map fun i => some (60 + i)),
  (69, [some 70, some 71]), (72, [some 73, some 74, some 75, some 76]),
  (77, [some 78, some 79, some 80, none, none, none, none, some 81, none, none, none, some 82, none, some 83, some 84, none, none, none, some 85, some 86, none, none, none, none, some 87, some 88, some 89, some 90, some 91, some 92])]
def refF (a k : Nat) : Option Nat := (((refT.find? (fun q => q.1 == a)).map Prod.snd).getD []).getD k none
def Std (σ : St) : Prop := 93 ≤ gn σ ∧ (∀ (a : Nat) (sh : Sh), layF a = some sh → gl σ a = some sh) ∧ ∀ a k b : Nat, refF a k = some b → gP σ a k = some b
theorem sh {σ : St} (h : Std σ) {a : Nat} {s : Sh} (e : layF a = some s) : gl σ a = some s := h.2.1 a s e
theorem rf {σ : St} (h : Std σ) {a k b : Nat} (e : refF a k = some b) : gP σ a k = some b := h.2.2 a k b e
