/-! more rows; sets as whole numbers -/
theorem V_ldc {g : Gl} {mi : MI} {R : Room} {QF : QFT} {pc : Nat} {ls : List (Option MV)} {st : List MV} {k n : Nat} {σ : St} {idx : Nat} {z : Int} (hd : decode mi.1 pc = .ok (.ldc idx, 2)) (hc : Cond.constant mi.2.1.cls idx (iI z) ∈ gTbl) (kk : V g mi R QF (pc + 2) ls (vi z :: st) k n σ) : V g mi R QF pc ls st k n σ := by
  intro p e s m args below meth c H locs la C hH hS hl
  exact lv_ldc C.1 C.2.1 C.2.2.2.2.1 (C.2.2.2.2.2.2.1 _ hc) hd (kk p e s m args below meth c H locs la C hH hS hl)
theorem V_ldc_w {g : Gl} {mi : MI} {R : Room} {QF : QFT} {pc : Nat} {ls : List (Option MV)} {st : List MV} {k n : Nat} {σ : St} {idx : Nat} {z : Int} (hd : decode mi.1 pc = .ok (.ldc_w idx, 3)) (hc : Cond.constant mi.2.1.cls idx (iI z) ∈ gTbl) (kk : V g mi R QF (pc + 3) ls (vi z :: st) k n σ) : V g mi R QF pc ls st k n σ := by
  intro p e s m args below meth c H locs la C hH hS hl
  exact lv_ldcw C.1 C.2.1 C.2.2.2.2.1 (C.2.2.2.2.2.2.1 _ hc) hd (kk p e s m args below meth c H locs la C hH hS hl)
theorem V_ldc2 {g : Gl} {mi : MI} {R : Room} {QF : QFT} {pc : Nat} {ls : List (Option MV)} {st : List MV} {k n : Nat} {σ : St} {idx : Nat} {z : Int64} (hd : decode mi.1 pc = .ok (.ldc2_w idx, 3)) (hc : Cond.constantLong mi.2.1.cls idx z ∈ gTbl) (kk : V g mi R QF (pc + 3) ls (vl z :: st) k n σ) : V g mi R QF pc ls st k n σ := by
  intro p e s m args below meth c H locs la C hH hS hl
  exact lv_ldc2 C.1 C.2.1 C.2.2.2.2.1 (C.2.2.2.2.2.2.1 _ hc) hd (kk p e s m args below meth c H locs la C hH hS hl)
/-- a shift without sign -/
def iUshr (x y : Int) : Int := ((iI x).toUInt32 >>> ((iI y).toUInt32 &&& Int32.toUInt32 31)).toInt32.toInt
theorem V_iushr {g : Gl} {mi : MI} {R : Room} {QF : QFT} {pc : Nat} {ls : List (Option MV)} {st : List MV} {k n : Nat} {σ : St} {x y : Int} (hd : decode mi.1 pc = .ok (.iushr, 1)) (kk : V g mi R QF (pc + 1) ls (vi (iUshr x y) :: st) k n σ) : V g mi R QF pc ls (vi y :: vi x :: st) k n σ := by
  intro p e s m args below meth c H locs la C hH hS hl
  exact lv_iushr C.1 C.2.1 hd (iI_of _).symm (kk p e s m args below meth c H locs la C hH hS hl)
/-- is i in the set s -/
abbrev bt (s i : Int) : Prop := s / 2 ^ i.toNat % 2 = 1
def clr (s i : Int) : Int := if bt s i then s - 2 ^ i.toNat else s
def ins (s i : Int) : Int := if bt s i then s else s + 2 ^ i.toNat
/-- how many of 0 .. n - 1 are in s -/
def pcn (s : Int) : Nat → Int
  | 0 => 0
  | n + 1 => pcn s n + (if bt s n then 1 else 0)
def pc10 (s : Int) : Int := pcn s 10
def bcE (s : Int) : Int :=
  let a := s - iAnd (iUshr s 1) 1431655765
  let b := iAnd a 858993459 + iAnd (iUshr a 2) 858993459
  let c := iAnd (b + iUshr b 4) 252645135
  let d := c + iUshr c 8
  iAnd (d + iUshr d 16) 63
set_option maxRecDepth 100000 in
theorem bcE_pc_all : ∀ s : Nat, s < 1024 → bcE (s : Int) = pc10 (s : Int) := by decide +kernel
theorem bcE_pc {s : Int} (h0 : 0 ≤ s) (h1 : s < 1024) : bcE s = pc10 s := by
  have h := bcE_pc_all s.toNat (by omega)
  rwa [Int.toNat_of_nonneg h0] at h
set_option maxRecDepth 100000 in
theorem clr_all : ∀ s : Nat, s < 1024 → ∀ i : Nat, i < 10 → iAnd (s : Int) (-1 - 1 * 2 ^ i) = clr (s : Int) (i : Int) := by decide +kernel
theorem clr_of {s i : Int} (h0 : 0 ≤ s) (h1 : s < 1024) (h2 : 0 ≤ i) (h3 : i < 10) : iAnd s (-1 - 1 * 2 ^ i.toNat) = clr s i := by
  have h := clr_all s.toNat (by omega) i.toNat (by omega)
  rwa [Int.toNat_of_nonneg h0, Int.toNat_of_nonneg h2] at h
set_option maxRecDepth 100000 in
theorem ins_all : ∀ s : Nat, s < 1024 → ∀ i : Nat, i < 10 → iOr (s : Int) (1 * 2 ^ i) = ins (s : Int) (i : Int) ∧ iOr (1 * 2 ^ i) (s : Int) = ins (s : Int) (i : Int) := by decide +kernel
theorem ins_of {s i : Int} (h0 : 0 ≤ s) (h1 : s < 1024) (h2 : 0 ≤ i) (h3 : i < 10) : iOr s (1 * 2 ^ i.toNat) = ins s i := by
  have h := (ins_all s.toNat (by omega) i.toNat (by omega)).1
  rwa [Int.toNat_of_nonneg h0, Int.toNat_of_nonneg h2] at h
theorem ins_of' {s i : Int} (h0 : 0 ≤ s) (h1 : s < 1024) (h2 : 0 ≤ i) (h3 : i < 10) : iOr (1 * 2 ^ i.toNat) s = ins s i := by
  have h := (ins_all s.toNat (by omega) i.toNat (by omega)).2
  rwa [Int.toNat_of_nonneg h0, Int.toNat_of_nonneg h2] at h
set_option maxRecDepth 100000 in
theorem low_all : ∀ s : Nat, s < 1024 → ∀ i : Nat, i < 10 → iAnd (s : Int) (1 * 2 ^ i - 1) = (s : Int) % 2 ^ i := by decide +kernel
theorem low_of {s i : Int} (h0 : 0 ≤ s) (h1 : s < 1024) (h2 : 0 ≤ i) (h3 : i < 10) : iAnd s (1 * 2 ^ i.toNat - 1) = s % 2 ^ i.toNat := by
  have h := low_all s.toNat (by omega) i.toNat (by omega)
  rwa [Int.toNat_of_nonneg h0] at h
theorem bt_01 (s i : Int) : s / 2 ^ i.toNat % 2 = 0 ∨ s / 2 ^ i.toNat % 2 = 1 := by omega
theorem c_bitCount (g : Gl) (σ : St) (s : Int) (h0 : 0 ≤ s) (h1 : s < 1024) : Ct g mJ6_bitCount_0f7a4 0 0 0 [vi s] σ (rP (vi (pc10 s)) σ) := by
  refine Ct.of (by decide +kernel) (Nat.le_of_ble_eq_true rfl) ?_
  refine V_iload_n dJ6_bitCount_0f7a4_0 rfl ?_
  refine V_iload_n dJ6_bitCount_0f7a4_1 rfl ?_
  refine V_iconst dJ6_bitCount_0f7a4_2 ?_
  refine V_iushr dJ6_bitCount_0f7a4_3 ?_
  refine V_ldc_w (z := 1431655765) dJ6_bitCount_0f7a4_4 sk_RJ6_265 ?_
  refine V_iand dJ6_bitCount_0f7a4_7 ?_
  refine V_isub dJ6_bitCount_0f7a4_8 ?_
  refine V_istore_n dJ6_bitCount_0f7a4_9 (by decide) rfl ?_
  refine V_iload_n dJ6_bitCount_0f7a4_10 rfl ?_
  refine V_ldc_w (z := 858993459) dJ6_bitCount_0f7a4_11 sk_RJ6_266 ?_
  refine V_iand dJ6_bitCount_0f7a4_14 ?_
  refine V_iload_n dJ6_bitCount_0f7a4_15 rfl ?_
  refine V_iconst dJ6_bitCount_0f7a4_16 ?_
  refine V_iushr dJ6_bitCount_0f7a4_17 ?_
  refine V_ldc_w (z := 858993459) dJ6_bitCount_0f7a4_18 sk_RJ6_266 ?_
  refine V_iand dJ6_bitCount_0f7a4_21 ?_
  refine V_iadd dJ6_bitCount_0f7a4_22 ?_
  refine V_istore_n dJ6_bitCount_0f7a4_23 (by decide) rfl ?_
  refine V_iload_n dJ6_bitCount_0f7a4_24 rfl ?_
  refine V_iload_n dJ6_bitCount_0f7a4_25 rfl ?_
  refine V_iconst dJ6_bitCount_0f7a4_26 ?_
  refine V_iushr dJ6_bitCount_0f7a4_27 ?_
  refine V_iadd dJ6_bitCount_0f7a4_28 ?_
  refine V_ldc_w (z := 252645135) dJ6_bitCount_0f7a4_29 sk_RJ6_267 ?_
  refine V_iand dJ6_bitCount_0f7a4_32 ?_
  refine V_istore_n dJ6_bitCount_0f7a4_33 (by decide) rfl ?_
  refine V_iload_n dJ6_bitCount_0f7a4_34 rfl ?_
  refine V_iload_n dJ6_bitCount_0f7a4_35 rfl ?_
  refine V_bipush dJ6_bitCount_0f7a4_36 (by decide) ?_
  refine V_iushr dJ6_bitCount_0f7a4_38 ?_
  refine V_iadd dJ6_bitCount_0f7a4_39 ?_
  refine V_istore_n dJ6_bitCount_0f7a4_40 (by decide) rfl ?_
  refine V_iload_n dJ6_bitCount_0f7a4_41 rfl ?_
  refine V_iload_n dJ6_bitCount_0f7a4_42 rfl ?_
  refine V_bipush dJ6_bitCount_0f7a4_43 (by decide) ?_
  refine V_iushr dJ6_bitCount_0f7a4_45 ?_
  refine V_iadd dJ6_bitCount_0f7a4_46 ?_
  refine V_istore_n dJ6_bitCount_0f7a4_47 (by decide) rfl ?_
  refine V_iload_n dJ6_bitCount_0f7a4_48 rfl ?_
  refine V_bipush dJ6_bitCount_0f7a4_49 (by decide) ?_
  refine V_iand dJ6_bitCount_0f7a4_51 ?_
  refine V_iret dJ6_bitCount_0f7a4_52 rfl (Nat.le_refl _) (Nat.le_refl _) ?_
  exact rP_i (bcE_pc h0 h1) rfl
theorem c_holds (g : Gl) (σ : St) (s i : Int) (h1 : inR s) (h2 : 0 ≤ i ∧ i < 32) : Ct g mX11_holds 0 0 0 [vi s, vi i] σ (rP (vi (bI (bt s i))) σ) := by
  refine Ct.of (by decide +kernel) (Nat.le_of_ble_eq_true rfl) ?_
  refine V_iload_n dX11_holds_0 rfl ?_
  refine V_iload_n dX11_holds_1 rfl ?_
  refine V_ishr dX11_holds_2 (by omega) ?_
  refine V_iconst dX11_holds_3 ?_
  refine V_iand1 dX11_holds_4 ?_
  refine V_iconst dX11_holds_5 ?_
  refine V_icmpne (tgt := 13) dX11_holds_6 (by decide) (by omega) (by omega) (fun br6 => ?_) (fun br6 => ?_)
  · refine V_iconst dX11_holds_13 ?_
    refine V_zret dX11_holds_14 rfl (Nat.le_refl _) (Nat.le_refl _) (by first | omega | exact bI_01 _) ?_
    first | exact rP_t (by assumption) | exact rP_f (by assumption)
  · refine V_iconst dX11_holds_9 ?_
    refine V_goto (tgt := 14) dX11_holds_10 (by decide) ?_
    refine V_zret dX11_holds_14 rfl (Nat.le_refl _) (Nat.le_refl _) (by first | omega | exact bI_01 _) ?_
    first | exact rP_t (by assumption) | exact rP_f (by assumption)
theorem c_without (g : Gl) (σ : St) (s i : Int) (h0 : 0 ≤ s) (h1 : s < 1024) (h2 : 0 ≤ i) (h3 : i < 10) : Ct g mX11_without 0 0 0 [vi s, vi i] σ (rP (vi (clr s i)) σ) := by
  refine Ct.of (by decide +kernel) (Nat.le_of_ble_eq_true rfl) ?_
  refine V_iload_n dX11_without_0 rfl ?_
  refine V_iconst dX11_without_1 ?_
  refine V_iload_n dX11_without_2 rfl ?_
  refine V_ishl dX11_without_3 (by omega) ?_
  refine V_iconst dX11_without_4 ?_
  refine V_inot dX11_without_5 ?_
  refine V_iand dX11_without_6 ?_
  refine V_iret dX11_without_7 rfl (Nat.le_refl _) (Nat.le_refl _) ?_
  exact rP_i (clr_of h0 h1 h2 h3) rfl
/-- the greatest whole number whose square is no more -/
def rtN : Nat → Nat
  | 0 => 0
  | v + 1 => if (rtN v + 1) * (rtN v + 1) ≤ v + 1 then rtN v + 1 else rtN v
theorem rtN_ok : ∀ v : Nat, rtN v * rtN v ≤ v ∧ v < (rtN v + 1) * (rtN v + 1)
  | 0 => ⟨Nat.le_refl _, by decide⟩
  | v + 1 => by
    obtain ⟨h1, h2⟩ := rtN_ok v
    unfold rtN
    split
    · rename_i q
      refine ⟨q, ?_⟩
      have : (rtN v + 1 + 1) * (rtN v + 1 + 1) = (rtN v + 1) * (rtN v + 1) + 2 * (rtN v + 1) + 1 := by
        rw [Nat.add_mul, Nat.mul_add]; omega
      omega
    · omega
def rt (v : Int) : Int := (rtN v.toNat : Int)
theorem rt_le {v : Int} (h : 0 ≤ v) : rt v * rt v ≤ v := by
  have := (rtN_ok v.toNat).1
  have h2 : ((rtN v.toNat * rtN v.toNat : Nat) : Int) ≤ (v.toNat : Int) := Int.ofNat_le.mpr this
  rw [Int.natCast_mul, Int.toNat_of_nonneg h] at h2
  exact h2
theorem rt_lt {v : Int} (h : 0 ≤ v) : v < (rt v + 1) * (rt v + 1) := by
  have := (rtN_ok v.toNat).2
  have h2 : (v.toNat : Int) < (((rtN v.toNat + 1) * (rtN v.toNat + 1) : Nat) : Int) := Int.ofNat_lt.mpr this
  rw [Int.natCast_mul, Int.toNat_of_nonneg h] at h2
  exact h2
theorem rt_0 (v : Int) : 0 ≤ rt v := Int.natCast_nonneg _
theorem sq_lt {a b : Int} (ha : 0 ≤ a) (hb : 0 ≤ b) (h : a * a < b * b) : a < b := by
  rcases Int.lt_or_le a b with q | q
  · exact q
  · have := Int.mul_le_mul q q hb ha
    omega
theorem rt_uniq {v r : Int} (h0 : 0 ≤ v) (hr : 0 ≤ r) (h1 : r * r ≤ v) (h2 : v < (r + 1) * (r + 1)) : r = rt v := by
  have a := rt_le h0
  have b := rt_lt h0
  have c := rt_0 v
  have x : r < rt v + 1 := sq_lt hr (by omega) (by omega)
  have y : rt v < r + 1 := sq_lt c (by omega) (by omega)
  omega
