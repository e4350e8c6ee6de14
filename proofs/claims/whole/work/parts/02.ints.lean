/-! whole numbers as ints and longs: sums and products need no range; comparisons, shifts and indexes do -/
def iI (z : Int) : Int32 := Int32.ofInt z
def lI (z : Int) : Int64 := Int64.ofInt z
theorem int_lt_ge (a b : Int) : a < b ∨ b ≤ a := by omega
def zP (P : Prop) [Decidable P] : Int := if P then 1 else 0
theorem zP_t {P : Prop} [Decidable P] (h : P) : zP P = 1 := if_pos h
theorem zP_f {P : Prop} [Decidable P] (h : ¬ P) : zP P = 0 := if_neg h
theorem zP_01 (P : Prop) [Decidable P] : 0 ≤ zP P ∧ zP P ≤ 1 := by
  unfold zP; split <;> omega
theorem zP_congr {P P' : Prop} [Decidable P] [Decidable P'] (h : P ↔ P') : zP P = zP P' := by
  unfold zP
  by_cases hp : P
  · rw [if_pos hp, if_pos (h.mp hp)]
  · rw [if_neg hp, if_neg (fun q => hp (h.mpr q))]
theorem iI_add (a b : Int) : iI a + iI b = iI (a + b) := (Int32.ofInt_add a b).symm
theorem iI_sub (a b : Int) : iI a - iI b = iI (a - b) := (Int32.ofInt_sub a b).symm
theorem iI_mul (a b : Int) : iI a * iI b = iI (a * b) := (Int32.ofInt_mul a b).symm
theorem iI_neg (a : Int) : -iI a = iI (-a) := (Int32.ofInt_neg a).symm
theorem lI_add (a b : Int) : lI a + lI b = lI (a + b) := (Int64.ofInt_add a b).symm
theorem lI_sub (a b : Int) : lI a - lI b = lI (a - b) := (Int64.ofInt_sub a b).symm
theorem lI_mul (a b : Int) : lI a * lI b = lI (a * b) := (Int64.ofInt_mul a b).symm
theorem lI_neg (a : Int) : -lI a = lI (-a) := (Int64.ofInt_neg a).symm
theorem iI_toInt {a : Int} (h : -2147483648 ≤ a ∧ a < 2147483648) : (iI a).toInt = a := Int32.toInt_ofInt_of_le (by omega) (by omega)
theorem lI_toInt {a : Int} (h : -9223372036854775808 ≤ a ∧ a < 9223372036854775808) : (lI a).toInt = a := Int64.toInt_ofInt_of_le (by omega) (by omega)
theorem iI_of (x : Int32) : iI x.toInt = x := Int32.ofInt_toInt x
theorem lI_of (x : Int64) : lI x.toInt = x := Int64.ofInt_toInt x
theorem iI_ex (x : Int32) : ∃ z : Int, (-2147483648 ≤ z ∧ z < 2147483648) ∧ x = iI z := ⟨x.toInt, ⟨by have := Int32.le_toInt x; omega, by have := Int32.toInt_lt x; omega⟩, (iI_of x).symm⟩
theorem iI_lt {a b : Int} (ha : -2147483648 ≤ a ∧ a < 2147483648) (hb : -2147483648 ≤ b ∧ b < 2147483648) : iI a < iI b ↔ a < b := by
  rw [Int32.lt_iff_toInt_lt, iI_toInt ha, iI_toInt hb]
theorem iI_le {a b : Int} (ha : -2147483648 ≤ a ∧ a < 2147483648) (hb : -2147483648 ≤ b ∧ b < 2147483648) : iI a ≤ iI b ↔ a ≤ b := by
  rw [Int32.le_iff_toInt_le, iI_toInt ha, iI_toInt hb]
theorem iI_eq {a b : Int} (ha : -2147483648 ≤ a ∧ a < 2147483648) (hb : -2147483648 ≤ b ∧ b < 2147483648) : iI a = iI b ↔ a = b := by
  rw [← Int32.toInt_inj, iI_toInt ha, iI_toInt hb]
theorem lI_lt {a b : Int} (ha : -9223372036854775808 ≤ a ∧ a < 9223372036854775808) (hb : -9223372036854775808 ≤ b ∧ b < 9223372036854775808) : lI a < lI b ↔ a < b := by
  rw [Int64.lt_iff_toInt_lt, lI_toInt ha, lI_toInt hb]
theorem lI_eq {a b : Int} (ha : -9223372036854775808 ≤ a ∧ a < 9223372036854775808) (hb : -9223372036854775808 ≤ b ∧ b < 9223372036854775808) : lI a = lI b ↔ a = b := by
  rw [← Int64.toInt_inj, lI_toInt ha, lI_toInt hb]
theorem iI_0 : (0 : Int32) = iI 0 := rfl
theorem iI_l {a : Int} (h : -2147483648 ≤ a ∧ a < 2147483648) : (iI a).toInt64 = lI a := by
  show Int64.ofInt (iI a).toInt = _
  rw [iI_toInt h]; rfl
theorem lI_i (a : Int) : (lI a).toInt32 = iI a := Int64.toInt32_ofInt
theorem iI_in {i : Int} {n : Nat} (h : 0 ≤ i ∧ i < (n : Int)) (hn : n < 2147483648) : vp_in (iI i) n := vp_in_iff.mpr (by rw [iI_toInt (by omega)]; exact h)
theorem iI_clamp {i : Int} (h : 0 ≤ i ∧ i < 2147483648) : (iI i).toNatClampNeg = i.toNat := by
  show (iI i).toInt.toNat = _
  rw [iI_toInt (by omega)]
theorem iI_nat (n : Nat) : Int32.ofNat n = iI (n : Int) := Int32.ofInt_eq_ofNat.symm
theorem iI_nI (n : Nat) : nI n = iI (n : Int) := iI_nat n
/-! bits, by the numbers without sign -/
theorem lI_un (z : Int) : (lI z).toBitVec.toNat = (z % 18446744073709551616).toNat := by
  show (BitVec.ofInt 64 z).toNat = _
  rw [BitVec.toNat_ofInt]; rfl
theorem iI_un (z : Int) : (iI z).toBitVec.toNat = (z % 4294967296).toNat := by
  show (BitVec.ofInt 32 z).toNat = _
  rw [BitVec.toNat_ofInt]; rfl
theorem lI_ext {a b : Int64} (h : a.toBitVec.toNat = b.toBitVec.toNat) : a = b := Int64.toBitVec_inj.mp (BitVec.eq_of_toNat_eq h)
theorem iI_ext {a b : Int32} (h : a.toBitVec.toNat = b.toBitVec.toNat) : a = b := Int32.toBitVec_inj.mp (BitVec.eq_of_toNat_eq h)
theorem p2_pos (k : Nat) : (0 : Int) < 2 ^ k := Int.pow_pos (by decide)
theorem p2_nat (k : Nat) : ((2 ^ k : Nat) : Int) = (2 : Int) ^ k := by rw [Int.natCast_pow]; rfl
theorem p2_add (a b : Nat) : (2 : Int) ^ (a + b) = 2 ^ a * 2 ^ b := Int.pow_add 2 a b
theorem p2_le {a b : Nat} (h : a ≤ b) : (2 : Int) ^ a ≤ 2 ^ b := by
  rw [← p2_nat, ← p2_nat]; exact Int.ofNat_le.mpr (Nat.pow_le_pow_right (by decide) h)
theorem p2_lt {a b : Nat} (h : a < b) : (2 : Int) ^ a < 2 ^ b := by
  rw [← p2_nat, ← p2_nat]; exact Int.ofNat_lt.mpr (Nat.pow_lt_pow_right (by decide) h)
theorem emod_64 (z : Int) {k : Nat} (h : k ≤ 64) : (z % 18446744073709551616) % 2 ^ k = z % 2 ^ k := by
  refine Int.emod_emod_of_dvd z ⟨2 ^ (64 - k), ?_⟩
  rw [← p2_add, show k + (64 - k) = 64 by omega]; rfl
theorem emod_32 (z : Int) {k : Nat} (h : k ≤ 32) : (z % 4294967296) % 2 ^ k = z % 2 ^ k := by
  refine Int.emod_emod_of_dvd z ⟨2 ^ (32 - k), ?_⟩
  rw [← p2_add, show k + (32 - k) = 32 by omega]; rfl
theorem toNat_mod {z M : Int} (hz : 0 ≤ z) {k : Nat} : z.toNat % 2 ^ k = (z % 2 ^ k).toNat := by
  have h4 : (0 : Int) ≤ z % 2 ^ k := Int.emod_nonneg _ (Int.ne_of_gt (p2_pos k))
  apply Int.ofNat_inj.mp
  rw [Int.natCast_emod, Int.toNat_of_nonneg hz, Int.toNat_of_nonneg h4, p2_nat]
theorem lI_mask (z : Int) (k : Nat) (hk : k ≤ 63) : lI z &&& lI (2 ^ k - 1) = lI (z % 2 ^ k) := by
  have hp := p2_pos k
  have hl := p2_lt (show k < 64 by omega)
  have e64 : (2 : Int) ^ 64 = 18446744073709551616 := rfl
  rw [e64] at hl
  have h4 : (0 : Int) ≤ z % 2 ^ k := Int.emod_nonneg _ (Int.ne_of_gt hp)
  have h5 : z % 2 ^ k < 2 ^ k := Int.emod_lt_of_pos _ hp
  have h3 : (0 : Int) ≤ z % 18446744073709551616 := Int.emod_nonneg _ (by decide)
  apply lI_ext
  rw [Int64.toBitVec_and, BitVec.toNat_and, lI_un, lI_un, lI_un, Int.emod_eq_of_lt (show (0 : Int) ≤ 2 ^ k - 1 by omega) (by omega), Int.emod_eq_of_lt h4 (by omega)]
  have h2 : ((2 : Int) ^ k - 1).toNat = 2 ^ k - 1 := by
    have := p2_nat k
    have := Nat.two_pow_pos k
    omega
  rw [h2, Nat.and_two_pow_sub_one_eq_mod, toNat_mod (M := 0) h3, emod_64 z (by omega)]
theorem iI_mask (z : Int) (k : Nat) (hk : k ≤ 31) : iI z &&& iI (2 ^ k - 1) = iI (z % 2 ^ k) := by
  have hp := p2_pos k
  have hl := p2_lt (show k < 32 by omega)
  have e64 : (2 : Int) ^ 32 = 4294967296 := rfl
  rw [e64] at hl
  have h4 : (0 : Int) ≤ z % 2 ^ k := Int.emod_nonneg _ (Int.ne_of_gt hp)
  have h5 : z % 2 ^ k < 2 ^ k := Int.emod_lt_of_pos _ hp
  have h3 : (0 : Int) ≤ z % 4294967296 := Int.emod_nonneg _ (by decide)
  apply iI_ext
  rw [Int32.toBitVec_and, BitVec.toNat_and, iI_un, iI_un, iI_un, Int.emod_eq_of_lt (show (0 : Int) ≤ 2 ^ k - 1 by omega) (by omega), Int.emod_eq_of_lt h4 (by omega)]
  have h2 : ((2 : Int) ^ k - 1).toNat = 2 ^ k - 1 := by
    have := p2_nat k
    have := Nat.two_pow_pos k
    omega
  rw [h2, Nat.and_two_pow_sub_one_eq_mod, toNat_mod (M := 0) h3, emod_32 z (by omega)]
theorem lI_m27 (z : Int) : lI z &&& lI 134217727 = lI (z % 134217728) := lI_mask z 27 (by decide)
theorem lI_m16 (z : Int) : lI z &&& lI 65535 = lI (z % 65536) := lI_mask z 16 (by decide)
theorem lI_m1 (z : Int) : lI z &&& lI 1 = lI (z % 2) := lI_mask z 1 (by decide)
theorem iI_m16 (z : Int) : iI z &&& iI 65535 = iI (z % 65536) := iI_mask z 16 (by decide)
theorem iI_m4 (z : Int) : iI z &&& iI 15 = iI (z % 16) := iI_mask z 4 (by decide)
theorem iI_m1 (z : Int) : iI z &&& iI 1 = iI (z % 2) := iI_mask z 1 (by decide)
theorem nat_and_pow (x k : Nat) : x &&& 2 ^ k = x / 2 ^ k % 2 * 2 ^ k := by
  apply Nat.eq_of_testBit_eq
  intro i
  rw [Nat.testBit_and, Nat.testBit_two_pow]
  have h2 : x / 2 ^ k % 2 = 0 ∨ x / 2 ^ k % 2 = 1 := by omega
  by_cases hi : k = i
  · subst hi
    rw [Nat.testBit_eq_decide_div_mod_eq (x := x)]
    rcases h2 with h | h
    · rw [h]; simp
    · rw [h]; simp [Nat.testBit_two_pow_self]
  · rcases h2 with h | h
    · rw [h]; simp [hi]
    · rw [h, Nat.one_mul, Nat.testBit_two_pow]; simp [hi]
/-- one bit -/
theorem iI_bit (z : Int) (k : Nat) (hk : k ≤ 30) : iI z &&& iI (2 ^ k) = iI (z / 2 ^ k % 2 * 2 ^ k) := by
  have hp := p2_pos k
  have hl := p2_le (show k ≤ 30 by omega)
  have e30 : (2 : Int) ^ 30 = 1073741824 := rfl
  rw [e30] at hl
  have h3 : (0 : Int) ≤ z % 4294967296 := Int.emod_nonneg _ (by decide)
  have h7 : (0 : Int) ≤ z / 2 ^ k % 2 := Int.emod_nonneg _ (by decide)
  have h8 : z / 2 ^ k % 2 < 2 := Int.emod_lt_of_pos _ (by decide)
  have h9 : (0 : Int) ≤ z / 2 ^ k % 2 * 2 ^ k ∧ z / 2 ^ k % 2 * 2 ^ k ≤ 1073741824 := by
    rcases (show z / 2 ^ k % 2 = 0 ∨ z / 2 ^ k % 2 = 1 by omega) with h | h <;> rw [h] <;> omega
  apply iI_ext
  rw [Int32.toBitVec_and, BitVec.toNat_and, iI_un, iI_un, iI_un, Int.emod_eq_of_lt (show (0 : Int) ≤ 2 ^ k by omega) (by omega), Int.emod_eq_of_lt h9.1 (by omega)]
  have h2 : ((2 : Int) ^ k).toNat = 2 ^ k := by
    have := p2_nat k
    omega
  rw [h2, nat_and_pow]
  have h5 : (z % 4294967296).toNat / 2 ^ k % 2 = (z / 2 ^ k % 2).toNat := by
    apply Int.ofNat_inj.mp
    rw [Int.natCast_emod, Int.natCast_ediv, Int.toNat_of_nonneg h3, Int.toNat_of_nonneg h7, p2_nat]
    show z % 4294967296 / 2 ^ k % 2 = z / 2 ^ k % 2
    have e1 : (4294967296 : Int) = 2 ^ k * (2 * 2 ^ (31 - k)) := by
      rw [show (2 : Int) ^ k * (2 * 2 ^ (31 - k)) = 2 ^ k * 2 ^ (31 - k) * 2 by rw [Int.mul_comm 2, Int.mul_assoc], ← p2_add, show k + (31 - k) = 31 by omega]; rfl
    have e2 : z % 4294967296 = z - 2 ^ k * (2 * (2 ^ (31 - k) * (z / 4294967296))) := by
      rw [Int.emod_def]
      conv => lhs; arg 2; rw [e1]
      rw [Int.mul_assoc, Int.mul_assoc, ← e1]
    rw [e2, Int.sub_eq_add_neg, ← Int.mul_neg, Int.add_mul_ediv_left _ _ (Int.ne_of_gt hp)]
    omega
  rw [h5]
  rcases (show z / 2 ^ k % 2 = 0 ∨ z / 2 ^ k % 2 = 1 by omega) with h | h
  · rw [h]; simp
  · rw [h, Int.one_mul, h2]; simp
/-! shifts -/
theorem sh64 : ∀ k : Nat, k < 64 → (iI (k : Int)).toInt64 &&& 63 = Int64.ofNat k := by decide +kernel
theorem sh64u : ∀ k : Nat, k < 64 → ((iI (k : Int)).toInt64.toUInt64 &&& Int64.toUInt64 63) = UInt64.ofNat k := by decide +kernel
theorem sh64s : ∀ k : Nat, k < 64 → ((Int64.ofNat k).toBitVec.smod 64).toNat = k := by decide +kernel
theorem sh32s : ∀ k : Nat, k < 32 → ((iI (k : Int) &&& 31).toBitVec.smod 32).toNat = k := by decide +kernel
theorem sh32u : ∀ k : Nat, k < 32 → (((iI (k : Int)).toUInt32 &&& Int32.toUInt32 31).toBitVec % 32).toNat = k := by decide +kernel
theorem lI_shr {z k : Int} (hz : -9223372036854775808 ≤ z ∧ z < 9223372036854775808) (hk : 0 ≤ k ∧ k < 64) : lI z >>> ((iI k).toInt64 &&& 63) = lI (z / 2 ^ k.toNat) := by
  obtain ⟨n, rfl⟩ : ∃ n : Nat, k = (n : Int) := ⟨k.toNat, by omega⟩
  have hn : n < 64 := by omega
  rw [sh64 n hn]
  apply Int64.toInt_inj.mp
  have e : (lI z >>> Int64.ofNat n).toInt = z >>> n := by
    show ((lI z).toBitVec.sshiftRight ((Int64.ofNat n).toBitVec.smod 64).toNat).toInt = _
    rw [sh64s n hn, BitVec.toInt_sshiftRight]
    show (lI z).toInt >>> n = _
    rw [lI_toInt hz]
  have hp := p2_pos n
  have h1 : (2 : Int) ^ n ≥ 1 := by omega
  have hb : -9223372036854775808 ≤ z / 2 ^ n ∧ z / 2 ^ n < 9223372036854775808 := by
    refine ⟨(Int.le_ediv_iff_mul_le hp).mpr (by have := Int.mul_le_mul_of_nonneg_left h1 (show (0 : Int) ≤ 9223372036854775808 by decide); omega), Int.ediv_lt_of_lt_mul hp (by have := Int.mul_le_mul_of_nonneg_left h1 (show (0 : Int) ≤ 9223372036854775808 by decide); omega)⟩
  rw [e, Int.toNat_natCast, lI_toInt hb, Int.shiftRight_eq_div_pow, p2_nat]
theorem lI_ushr {z k : Int} (hz : 0 ≤ z ∧ z < 9223372036854775808) (hk : 0 ≤ k ∧ k < 64) : ((lI z).toUInt64 >>> ((iI k).toInt64.toUInt64 &&& Int64.toUInt64 63)).toInt64 = lI (z / 2 ^ k.toNat) := by
  obtain ⟨n, rfl⟩ : ∃ n : Nat, k = (n : Int) := ⟨k.toNat, by omega⟩
  have hn : n < 64 := by omega
  rw [sh64u n hn, Int.toNat_natCast]
  apply lI_ext
  show ((lI z).toUInt64 >>> UInt64.ofNat n).toNat = _
  have h1 : (UInt64.ofNat n).toNat = n := by
    show (BitVec.ofNat 64 n).toNat = n
    rw [BitVec.toNat_ofNat, Nat.mod_eq_of_lt (by omega)]
  have h2 : (lI z).toUInt64.toNat = z.toNat := by
    show (lI z).toBitVec.toNat = _
    rw [lI_un, Int.emod_eq_of_lt hz.1 (by omega)]
  have hp := p2_pos n
  have h3 : 0 ≤ z / 2 ^ n := Int.ediv_nonneg hz.1 (by omega)
  have h4 : z / 2 ^ n ≤ z := Int.ediv_le_self _ hz.1
  rw [UInt64.toNat_shiftRight, h1, h2, Nat.mod_eq_of_lt hn, Nat.shiftRight_eq_div_pow, lI_un, Int.emod_eq_of_lt h3 (by omega)]
  apply Int.ofNat_inj.mp
  rw [Int.natCast_ediv, Int.toNat_of_nonneg hz.1, Int.toNat_of_nonneg h3, p2_nat]
theorem lI_shl (z : Int) {k : Int} (hk : 0 ≤ k ∧ k < 64) : lI z <<< ((iI k).toInt64 &&& 63) = lI (z * 2 ^ k.toNat) := by
  obtain ⟨n, rfl⟩ : ∃ n : Nat, k = (n : Int) := ⟨k.toNat, by omega⟩
  have hn : n < 64 := by omega
  rw [sh64 n hn, Int.toNat_natCast]
  apply lI_ext
  rw [Int64.toBitVec_shiftLeft]
  show ((lI z).toBitVec <<< ((Int64.ofNat n).toBitVec.smod 64).toNat).toNat = _
  rw [sh64s n hn, BitVec.toNat_shiftLeft, lI_un, lI_un, Nat.shiftLeft_eq]
  have h3 : (0 : Int) ≤ z % 18446744073709551616 := Int.emod_nonneg _ (by decide)
  have h4 : (0 : Int) ≤ z * 2 ^ n % 18446744073709551616 := Int.emod_nonneg _ (by decide)
  apply Int.ofNat_inj.mp
  rw [Int.natCast_emod, Int.natCast_mul, Int.toNat_of_nonneg h3, Int.toNat_of_nonneg h4, p2_nat]
  show z % 18446744073709551616 * 2 ^ n % 18446744073709551616 = _
  rw [Int.mul_emod, Int.emod_emod_of_dvd _ (Int.dvd_refl _), ← Int.mul_emod]
theorem iI_shr {z k : Int} (hz : -2147483648 ≤ z ∧ z < 2147483648) (hk : 0 ≤ k ∧ k < 32) : iI z >>> (iI k &&& 31) = iI (z / 2 ^ k.toNat) := by
  obtain ⟨n, rfl⟩ : ∃ n : Nat, k = (n : Int) := ⟨k.toNat, by omega⟩
  have hn : n < 32 := by omega
  apply Int32.toInt_inj.mp
  have hp := p2_pos n
  have h1 : (2 : Int) ^ n ≥ 1 := by omega
  have hb : -2147483648 ≤ z / 2 ^ n ∧ z / 2 ^ n < 2147483648 := by
    refine ⟨(Int.le_ediv_iff_mul_le hp).mpr (by have := Int.mul_le_mul_of_nonneg_left h1 (show (0 : Int) ≤ 2147483648 by decide); omega), Int.ediv_lt_of_lt_mul hp (by have := Int.mul_le_mul_of_nonneg_left h1 (show (0 : Int) ≤ 2147483648 by decide); omega)⟩
  rw [pk_shr _ _ n (sh32s n hn), iI_toInt hz, Int.toNat_natCast, iI_toInt hb, Int.shiftRight_eq_div_pow, p2_nat]
theorem iI_ushr {z k : Int} (hz : 0 ≤ z ∧ z < 2147483648) (hk : 0 ≤ k ∧ k < 32) : ((iI z).toUInt32 >>> ((iI k).toUInt32 &&& Int32.toUInt32 31)).toInt32 = iI (z / 2 ^ k.toNat) := by
  obtain ⟨n, rfl⟩ : ∃ n : Nat, k = (n : Int) := ⟨k.toNat, by omega⟩
  have hn : n < 32 := by omega
  apply iI_ext
  have hp := p2_pos n
  have h3 : 0 ≤ z / 2 ^ n := Int.ediv_nonneg hz.1 (by omega)
  have h4 : z / 2 ^ n ≤ z := Int.ediv_le_self _ hz.1
  rw [pk_ushr _ _ n (sh32u n hn), iI_un, iI_un, Int.emod_eq_of_lt hz.1 (by omega), Int.toNat_natCast, Int.emod_eq_of_lt h3 (by omega)]
  apply Int.ofNat_inj.mp
  rw [Int.natCast_ediv, Int.toNat_of_nonneg hz.1, Int.toNat_of_nonneg h3, p2_nat]
theorem iI_shl (z : Int) {k : Int} (hk : 0 ≤ k ∧ k < 32) : iI z <<< (iI k &&& 31) = iI (z * 2 ^ k.toNat) := by
  obtain ⟨n, rfl⟩ : ∃ n : Nat, k = (n : Int) := ⟨k.toNat, by omega⟩
  have hn : n < 32 := by omega
  apply iI_ext
  have h3 : (0 : Int) ≤ z % 4294967296 := Int.emod_nonneg _ (by decide)
  have h4 : (0 : Int) ≤ z * 2 ^ n % 4294967296 := Int.emod_nonneg _ (by decide)
  rw [pk_shl _ _ n (sh32s n hn), iI_un, iI_un, Int.toNat_natCast]
  apply Int.ofNat_inj.mp
  rw [Int.natCast_emod, Int.natCast_mul, Int.toNat_of_nonneg h3, Int.toNat_of_nonneg h4, p2_nat]
  show z % 4294967296 * 2 ^ n % 4294967296 = _
  rw [Int.mul_emod, Int.emod_emod_of_dvd _ (Int.dvd_refl _), ← Int.mul_emod]
theorem iI_not (z : Int) : iI z ^^^ iI (-1) = iI (-z - 1) := by
  have h : iI (-1) = -1 := rfl
  rw [h]
  apply Int32.toBitVec_inj.mp
  rw [Int32.toBitVec_xor]
  show BitVec.ofInt 32 z ^^^ BitVec.allOnes 32 = BitVec.ofInt 32 (-z - 1)
  rw [BitVec.xor_allOnes]
  apply BitVec.eq_of_toNat_eq
  rw [BitVec.toNat_not, BitVec.toNat_ofInt, BitVec.toNat_ofInt]
  have h3 : (0 : Int) ≤ z % 4294967296 := Int.emod_nonneg _ (by decide)
  have h4 : (0 : Int) ≤ (-z - 1) % 4294967296 := Int.emod_nonneg _ (by decide)
  show 2 ^ 32 - 1 - (z % 4294967296).toNat = ((-z - 1) % 4294967296).toNat
  omega
theorem nat_or_lo {a b k : Nat} (h : a < 2 ^ k) : (b * 2 ^ k) ||| a = b * 2 ^ k + a := by
  rw [Nat.mul_comm, ← Nat.two_pow_add_eq_or_of_lt h]
theorem iI_or {a b : Int} {k : Nat} (ha : 0 ≤ a ∧ a < 2 ^ k) (hb : 0 ≤ b) (h : b * 2 ^ k + a < 2147483648) : iI (b * 2 ^ k) ||| iI a = iI (b * 2 ^ k + a) := by
  have hp := p2_pos k
  have hm : 0 ≤ b * 2 ^ k := Int.mul_nonneg hb (by omega)
  apply iI_ext
  rw [Int32.toBitVec_or, BitVec.toNat_or, iI_un, iI_un, iI_un, Int.emod_eq_of_lt hm (by omega), Int.emod_eq_of_lt ha.1 (by omega), Int.emod_eq_of_lt (show 0 ≤ b * 2 ^ k + a by omega) (by omega)]
  have e1 : (b * 2 ^ k).toNat = b.toNat * 2 ^ k := by
    apply Int.ofNat_inj.mp
    rw [Int.toNat_of_nonneg hm, Int.natCast_mul, Int.toNat_of_nonneg hb, p2_nat]
  have e2 : a.toNat < 2 ^ k := by
    have := p2_nat k
    omega
  rw [e1, nat_or_lo e2, ← e1]
  omega
theorem iI_or0 (a : Int) : iI a ||| iI 0 = iI a := by
  apply Int32.toBitVec_inj.mp
  rw [Int32.toBitVec_or]
  show (iI a).toBitVec ||| 0#32 = _
  simp
theorem iI_0or (a : Int) : iI 0 ||| iI a = iI a := by
  apply Int32.toBitVec_inj.mp
  rw [Int32.toBitVec_or]
  show 0#32 ||| (iI a).toBitVec = _
  simp
theorem iI_xor_nn {a b : Int} (ha : 0 ≤ a ∧ a < 2147483648) (hb : 0 ≤ b ∧ b < 2147483648) : ∃ v : Int, (0 ≤ v ∧ v < 2147483648) ∧ iI a ^^^ iI b = iI v := by
  have h1 : a.toNat < 2 ^ 31 := by omega
  have h2 : b.toNat < 2 ^ 31 := by omega
  have h3 := Nat.xor_lt_two_pow h1 h2
  refine ⟨((a.toNat ^^^ b.toNat : Nat) : Int), by omega, ?_⟩
  apply iI_ext
  rw [Int32.toBitVec_xor, BitVec.toNat_xor, iI_un, iI_un, iI_un, Int.emod_eq_of_lt ha.1 (by omega), Int.emod_eq_of_lt hb.1 (by omega), Int.emod_eq_of_lt (by omega) (by omega), Int.toNat_natCast]
theorem iI_div {a b : Int} (ha : 0 ≤ a ∧ a < 2147483648) (hb : 0 < b ∧ b < 2147483648) : iI a / iI b = iI (a / b) := by
  obtain ⟨n, rfl⟩ : ∃ n : Nat, a = (n : Int) := ⟨a.toNat, by omega⟩
  obtain ⟨d, rfl⟩ : ∃ d : Nat, b = (d : Int) := ⟨b.toNat, by omega⟩
  rw [← iI_nI, ← iI_nI, pk_div (by omega) (by omega) (by omega), iI_nI, Int.natCast_ediv]
theorem iI_rem {a b : Int} (ha : 0 ≤ a ∧ a < 2147483648) (hb : 0 < b ∧ b < 2147483648) : iI a - iI a / iI b * iI b = iI (a % b) := by
  rw [iI_div ha hb, iI_mul, iI_sub, Int.emod_def, Int.mul_comm b]
