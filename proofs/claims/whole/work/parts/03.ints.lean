/-! whole numbers for the machine's ints: iI z is the int that z tells -/
def iI (z : Int) : Int32 := Int32.ofInt z
abbrev inR (z : Int) : Prop := -2147483648 ≤ z ∧ z < 2147483648
theorem iI_add (a b : Int) : iI (a + b) = iI a + iI b := Int32.ofInt_add a b
theorem iI_sub (a b : Int) : iI (a - b) = iI a - iI b := Int32.ofInt_sub a b
theorem iI_mul (a b : Int) : iI (a * b) = iI a * iI b := Int32.ofInt_mul a b
theorem iI_neg (a : Int) : iI (-a) = -iI a := Int32.ofInt_neg a
theorem iI_toInt {a : Int} (h : inR a) : (iI a).toInt = a := Int32.toInt_ofInt_of_le h.1 h.2
theorem iI_of (x : Int32) : iI x.toInt = x := by
  apply Int32.toInt_inj.mp
  rw [iI_toInt ⟨x.le_toInt, x.toInt_lt⟩]
theorem inR_of (x : Int32) : inR x.toInt := ⟨x.le_toInt, x.toInt_lt⟩
theorem iI_eq {a b : Int} (ha : inR a) (hb : inR b) : iI a = iI b ↔ a = b := by
  refine ⟨fun h => ?_, fun h => by rw [h]⟩
  have := congrArg Int32.toInt h
  rwa [iI_toInt ha, iI_toInt hb] at this
theorem iI_lt {a b : Int} (ha : inR a) (hb : inR b) : iI a < iI b ↔ a < b := by
  rw [Int32.lt_iff_toInt_lt, iI_toInt ha, iI_toInt hb]
theorem iI_le {a b : Int} (ha : inR a) (hb : inR b) : iI a ≤ iI b ↔ a ≤ b := by
  rw [Int32.le_iff_toInt_le, iI_toInt ha, iI_toInt hb]
theorem iI_0 : iI 0 = 0 := rfl
theorem inR_0 : inR 0 := by decide
theorem iI_eq0 {a : Int} (ha : inR a) : iI a = 0 ↔ a = 0 := iI_eq ha inR_0
theorem iI_lt0 {a : Int} (ha : inR a) : iI a < 0 ↔ a < 0 := iI_lt ha inR_0
theorem iI_ge0 {a : Int} (ha : inR a) : 0 ≤ iI a ↔ 0 ≤ a := iI_le inR_0 ha
theorem iI_le0 {a : Int} (ha : inR a) : iI a ≤ 0 ↔ a ≤ 0 := iI_le ha inR_0
theorem iI_gt0 {a : Int} (ha : inR a) : 0 < iI a ↔ 0 < a := iI_lt inR_0 ha
theorem iI_clamp {a : Int} (h0 : 0 ≤ a) (h1 : a < 2147483648) : (iI a).toNatClampNeg = a.toNat := by
  have h := iI_toInt (a := a) ⟨by omega, h1⟩
  show (iI a).toInt.toNat = a.toNat
  rw [h]
theorem iI_in {a : Int} {n : Nat} (h0 : 0 ≤ a) (h1 : a < n) (hn : n < 2147483648) : vp_in (iI a) n := by
  rw [vp_in_iff, iI_toInt ⟨by omega, by omega⟩]
  exact ⟨h0, h1⟩
theorem iI_div {a b : Int} (ha : 0 ≤ a) (ha2 : a < 2147483648) (hb : 0 < b) (hb2 : b < 2147483648) : iI a / iI b = iI (a / b) := by
  apply Int32.toInt_inj.mp
  have h1 := iI_toInt (a := a) ⟨by omega, ha2⟩
  have h2 := iI_toInt (a := b) ⟨by omega, hb2⟩
  have h3 : 0 ≤ a / b := Int.ediv_nonneg ha (by omega)
  have h4 : a / b ≤ a := Int.ediv_le_self b ha
  rw [Int32.toInt_div_of_ne_right _ _ (fun h => by rw [h] at h2; have : (-1 : Int32).toInt = -1 := rfl; omega), h1, h2, iI_toInt ⟨by omega, by omega⟩, Int.tdiv_eq_ediv_of_nonneg ha]
theorem iI_rem {a b : Int} (ha : 0 ≤ a) (ha2 : a < 2147483648) (hb : 0 < b) (hb2 : b < 2147483648) : iI a - iI a / iI b * iI b = iI (a % b) := by
  rw [iI_div ha ha2 hb hb2, ← iI_mul, ← iI_sub]
  congr 1
  have := Int.emod_def a b
  rw [this, Int.mul_comm]
theorem iI_bmod (z : Int) : (iI z).toInt = z.bmod (2 ^ 32) := by
  show (Int32.ofInt z).toInt = _
  rw [Int32.toInt_ofInt]
theorem iI_eqm {a b : Int} (h : a.bmod (2 ^ 32) = b.bmod (2 ^ 32)) : iI a = iI b := by
  apply Int32.toInt_inj.mp
  rw [iI_bmod, iI_bmod, h]
theorem iI_nat (n : Nat) : iI (n : Int) = nI n := rfl
theorem iI_amt : ∀ n : Nat, n < 32 → ((iI (n : Int) &&& 31).toBitVec.smod 32).toNat = n := by decide
theorem iI_amt' {b : Int} (h0 : 0 ≤ b) (h1 : b < 32) : ((iI b &&& 31).toBitVec.smod 32).toNat = b.toNat := by
  have h := iI_amt b.toNat (by omega)
  rw [Int.toNat_of_nonneg h0] at h
  exact h
theorem iI_bvn (a : Int) : (iI a).toBitVec.toNat = (a % 2 ^ 32).toNat := by
  show (BitVec.ofInt 32 a).toNat = _
  rw [BitVec.toNat_ofInt]; rfl
theorem iI_shl {a b : Int} (h0 : 0 ≤ b) (h1 : b < 32) : iI a <<< (iI b &&& 31) = iI (a * 2 ^ b.toNat) := by
  have h := pk_shl (iI a) (iI b &&& 31) b.toNat (iI_amt' h0 h1)
  apply Int32.toBitVec_inj.mp
  apply BitVec.eq_of_toNat_eq
  rw [h, iI_bvn, iI_bvn]
  have e : (((a % 2 ^ 32).toNat * 2 ^ b.toNat : Nat) : Int) = (a % 2 ^ 32) * 2 ^ b.toNat := by
    rw [Int.natCast_mul, Int.toNat_of_nonneg (Int.emod_nonneg _ (by decide)), Int.natCast_pow]; rfl
  apply Int.ofNat_inj.mp
  rw [Int.natCast_emod, e, Int.toNat_of_nonneg (Int.emod_nonneg _ (by decide))]
  show a % 2 ^ 32 * 2 ^ b.toNat % 2 ^ 32 = _
  rw [Int.mul_emod, Int.emod_emod_of_dvd _ (Int.dvd_refl _), ← Int.mul_emod]
theorem iI_shr {a b : Int} (ha : inR a) (h0 : 0 ≤ b) (h1 : b < 32) : iI a >>> (iI b &&& 31) = iI (a / 2 ^ b.toNat) := by
  have h := pk_shr (iI a) (iI b &&& 31) b.toNat (iI_amt' h0 h1)
  apply Int32.toInt_inj.mp
  rw [h, iI_toInt ha, Int.shiftRight_eq_div_pow]
  have hp : (0 : Int) < 2 ^ b.toNat := Int.pow_pos (by decide)
  have e : (((2 ^ b.toNat : Nat)) : Int) = 2 ^ b.toNat := by rw [Int.natCast_pow]; rfl
  rw [e, iI_toInt]
  have h1' : (1 : Int) ≤ 2 ^ b.toNat := hp
  refine ⟨?_, ?_⟩
  · rcases Int.lt_or_le a 0 with q | q
    · have : a ≤ a / 2 ^ b.toNat := by
        rw [Int.le_ediv_iff_mul_le hp]
        have := Int.mul_le_mul_of_nonpos_left (show a ≤ 0 by omega) h1'
        rw [Int.mul_one] at this
        exact this
      omega
    · have := Int.ediv_nonneg q (Int.le_of_lt hp)
      omega
  · rcases Int.lt_or_le a 0 with q | q
    · have := Int.ediv_neg_of_neg_of_pos q hp
      omega
    · have := Int.ediv_le_self (2 ^ b.toNat) q
      omega
theorem iI_and1 (a : Int) : iI a &&& 1 = iI (a % 2) := by
  rw [pk_and (iI a) 1 rfl, iI_bvn, ← iI_nat]
  congr 1
  omega
theorem iI_and {a b : Nat} : iI a &&& iI b = iI ((a &&& b : Nat) : Int) := by
  rw [iI_nat, iI_nat, iI_nat]
  apply Int32.toBitVec_inj.mp
  show BitVec.ofNat 32 a &&& BitVec.ofNat 32 b = BitVec.ofNat 32 (a &&& b)
  rw [BitVec.ofNat_and]
theorem iI_or {a b : Nat} : iI a ||| iI b = iI ((a ||| b : Nat) : Int) := by
  rw [iI_nat, iI_nat, iI_nat]
  apply Int32.toBitVec_inj.mp
  show BitVec.ofNat 32 a ||| BitVec.ofNat 32 b = BitVec.ofNat 32 (a ||| b)
  rw [BitVec.ofNat_or]
theorem iI_not (a : Int) : iI a ^^^ iI (-1) = iI (-1 - a) := by
  apply Int32.toBitVec_inj.mp
  show BitVec.ofInt 32 a ^^^ BitVec.ofInt 32 (-1) = BitVec.ofInt 32 (-1 - a)
  have e : BitVec.ofInt 32 (-1) = BitVec.allOnes 32 := rfl
  rw [e, BitVec.xor_allOnes]
  apply BitVec.eq_of_toInt_eq
  rw [BitVec.toInt_not, BitVec.toInt_ofInt]
  simp [BitVec.toNat_ofInt, Int.bmod_def]
  omega
