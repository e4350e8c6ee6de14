/-! a given number k * 2 ^ e, k an int: its 53 bits, and how often it is doubled for them -/
def nt (k : Int) : Nat := 52 - k.natAbs.log2
theorem n_lt (z : Int) : z < ((z.toNat + 1 : Nat) : Int) := by omega
theorem nt_log {k : Int} (h0 : 0 < k) (h : k < 4294967296) : ∃ L : Nat, L ≤ 31 ∧ nt k = 52 - L ∧ (2 : Int) ^ L ≤ k ∧ k < 2 ^ (L + 1) := by
  have hn : k.natAbs ≠ 0 := by omega
  have l1 : 2 ^ k.natAbs.log2 ≤ k.natAbs := Nat.log2_self_le hn
  have l2 : k.natAbs < 2 ^ (k.natAbs.log2 + 1) := Nat.lt_log2_self
  refine ⟨k.natAbs.log2, ?_, rfl, ?_, ?_⟩
  · rcases Nat.lt_or_ge 31 k.natAbs.log2 with q | q
    · have := Nat.pow_le_pow_right (show 0 < 2 by decide) (show 32 ≤ k.natAbs.log2 from q)
      have e : 2 ^ 32 = 4294967296 := by decide
      omega
    · exact q
  · have := p2_nat k.natAbs.log2
    omega
  · have := p2_nat (k.natAbs.log2 + 1)
    omega
theorem nt_r {k : Int} (h0 : 0 < k) (h : k < 4294967296) : 21 ≤ nt k ∧ nt k ≤ 52 := by
  obtain ⟨L, h1, h2, -⟩ := nt_log h0 h
  omega
theorem nt_neg (k : Int) : nt (-k) = nt k := by unfold nt; rw [Int.natAbs_neg]
theorem nt_m {k : Int} (h0 : 0 < k) (h : k < 4294967296) : 4503599627370496 ≤ k * 2 ^ nt k ∧ k * 2 ^ nt k < 9007199254740992 := by
  obtain ⟨L, h1, h2, h3, h4⟩ := nt_log h0 h
  have hp := p2_pos (nt k)
  have e1 : (2 : Int) ^ L * 2 ^ nt k = 4503599627370496 := by rw [← p2_add, show L + nt k = 52 by omega]; rfl
  have e2 : (2 : Int) ^ (L + 1) * 2 ^ nt k = 9007199254740992 := by rw [← p2_add, show L + 1 + nt k = 53 by omega]; rfl
  exact ⟨by rw [← e1]; exact Int.mul_le_mul_of_nonneg_right h3 (Int.le_of_lt hp), by rw [← e2]; exact Int.mul_lt_mul_of_pos_right h4 hp⟩
theorem nt_le {k q : Int} (h0 : 0 < k) (h : k < 4294967296) (hq : -1074 ≤ q) : 1 * zQ 52 ≤ k * zQ q ↔ (nt k : Int) ≤ q := by
  obtain ⟨L, h1, h2, h3, h4⟩ := nt_log h0 h
  unfold zQ
  rw [Int.one_mul]
  constructor
  · intro hh
    rcases int_lt_ge q (nt k : Int) with c | c
    · exfalso
      have hp := p2_pos (q + 1074).toNat
      have a1 := Int.mul_lt_mul_of_pos_right h4 hp
      rw [← p2_add] at a1
      have a2 := p2_le (show L + 1 + (q + 1074).toNat ≤ (52 + 1074 : Int).toNat by omega)
      omega
    · exact c
  · intro hh
    have hp := p2_pos (q + 1074).toNat
    have a1 := Int.mul_le_mul_of_nonneg_right h3 (Int.le_of_lt hp)
    rw [← p2_add] at a1
    have a2 := p2_le (show (52 + 1074 : Int).toNat ≤ L + (q + 1074).toNat by omega)
    omega
theorem nt_lt {k q : Int} (h0 : 0 < k) (h : k < 4294967296) (hq : -1074 ≤ q) (hh : q ≤ (nt k : Int)) : k * zQ q < 1 * zQ 53 := by
  obtain ⟨L, h1, h2, h3, h4⟩ := nt_log h0 h
  unfold zQ
  rw [Int.one_mul]
  have hp := p2_pos (q + 1074).toNat
  have a1 := Int.mul_lt_mul_of_pos_right h4 hp
  rw [← p2_add] at a1
  have a2 := p2_le (show L + 1 + (q + 1074).toNat ≤ (53 + 1074 : Int).toNat by omega)
  omega
theorem nt_ge {k q : Int} (h0 : 0 < k) (h : k < 4294967296) (hq : -1074 ≤ q) : 1 * zQ 53 ≤ k * zQ q ↔ (nt k : Int) < q := by
  obtain ⟨L, h1, h2, h3, h4⟩ := nt_log h0 h
  constructor
  · intro hh
    rcases int_lt_ge (nt k : Int) q with c | c
    · exact c
    · have := nt_lt h0 h hq c; omega
  · intro hh
    unfold zQ
    rw [Int.one_mul]
    have hp := p2_pos (q + 1074).toNat
    have a1 := Int.mul_le_mul_of_nonneg_right h3 (Int.le_of_lt hp)
    rw [← p2_add] at a1
    have a2 := p2_le (show (53 + 1074 : Int).toNat ≤ L + (q + 1074).toNat by omega)
    omega
/-- signs of doubles -/
theorem zs_lt {k q : Int} : k * zQ q < 0 * zQ 0 ↔ k < 0 := by
  have hp := zQ_pos q
  rw [Int.zero_mul]
  constructor
  · intro h
    rcases int_lt_ge k 0 with c | c
    · exact c
    · have := Int.mul_nonneg c (Int.le_of_lt hp); omega
  · intro h; exact Int.mul_neg_of_neg_of_pos h hp
theorem zs_le {k q : Int} : k * zQ q ≤ 0 * zQ 0 ↔ k ≤ 0 := by
  have hp := zQ_pos q
  rw [Int.zero_mul]
  constructor
  · intro h
    rcases int_lt_ge 0 k with c | c
    · have := Int.mul_pos c hp; omega
    · exact c
  · intro h
    rcases int_lt_ge k 0 with c | c
    · have := Int.mul_neg_of_neg_of_pos c hp; omega
    · rw [show k = 0 by omega, Int.zero_mul]; exact Int.le_refl _
theorem zs_ge {k q : Int} : 0 * zQ 0 ≤ k * zQ q ↔ 0 ≤ k := by
  have := @zs_lt k q
  omega
theorem zs_gt {k q : Int} : 0 * zQ 0 < k * zQ q ↔ 0 < k := by
  have := @zs_le k q
  omega
theorem zs_eq {k q : Int} : k * zQ q = 0 * zQ 0 ↔ k = 0 := by
  have := @zs_le k q
  have := @zs_lt k q
  omega
section XT
variable {p : Program} {l : Launch} {e : Env} {R : Room} {s : State} {m : MethodId} {args : Array Value} {below : List Frame} {meth : Method} {c : Code} {H : Heap} {locs : List Loc} {cells slots : Nat} {Q : State → Prop} {pc : Nat} {ls : Array Slot} {rest : List Value}
theorem x_topd (a q a' q' : Int) (h : dM a q = dM a' q') (k : W p l e R s m args below meth c H locs cells slots Q (F0 m pc ls (.double (dM a' q') :: rest))) : W p l e R s m args below meth c H locs cells slots Q (F0 m pc ls (.double (dM a q) :: rest)) := by rw [h]; exact k
end XT
/-- rooms -/
def rd (d k : Nat) : Room := { frames := d, cells := 0, slots := 0, locals := k }
theorem rm_ok {d k d' k' maxL : Nat} (h : d' + 1 ≤ d) (h2 : 8 + (maxL + 11) + k' ≤ k) : RM (rd d k) (rd d' k') maxL := ⟨rfl, rfl, h, h2⟩
theorem zQ_le {q q' : Int} (h : q ≤ q') : zQ q ≤ zQ q' := p2_le (by omega)
theorem al_lo {k q : Int} (hk : -4294967296 < k ∧ k < 4294967296) (hq : -3 ≤ q ∧ q ≤ 0) (h : k * zQ q < -1 * zQ 60) : False := by
  have h1 := zQ_le hq.2
  have h2 := zQ_pos q
  have e0 : zQ 60 = 2 ^ 60 * zQ 0 := zQ_add (q := 0) (by decide) 60
  have e1 : (2 : Int) ^ 60 = 1152921504606846976 := rfl
  rw [e1] at e0
  have a1 : -4294967296 * zQ q ≤ k * zQ q := Int.mul_le_mul_of_nonneg_right (by omega) (by omega)
  omega
theorem al_hi {k q : Int} (hk : -4294967296 < k ∧ k < 4294967296) (hq : -3 ≤ q ∧ q ≤ 0) (h : ¬ k * zQ q ≤ 1 * zQ 60) : False := by
  have h1 := zQ_le hq.2
  have h2 := zQ_pos q
  have e0 : zQ 60 = 2 ^ 60 * zQ 0 := zQ_add (q := 0) (by decide) 60
  have e1 : (2 : Int) ^ 60 = 1152921504606846976 := rfl
  rw [e1] at e0
  have a1 : k * zQ q ≤ 4294967296 * zQ q := Int.mul_le_mul_of_nonneg_right (by omega) (by omega)
  omega
theorem al_one {k q : Int} (h0 : 0 < k) (hq : -3 ≤ q ∧ q ≤ 0) (h : k * zQ (q + 60) < 1 * zQ 0) : False := by
  have h1 := zQ_le (show (0 : Int) ≤ q + 60 by omega)
  have h2 := zQ_pos (q + 60)
  have a1 : 1 * zQ (q + 60) ≤ k * zQ (q + 60) := Int.mul_le_mul_of_nonneg_right (by omega) (by omega)
  omega
theorem dM_zero (q q' : Int) : dM 0 q = dM 0 q' := by
  unfold dM FP.Core.roundRatio
  rw [if_pos (show Int.natAbs 0 = 0 from rfl), if_pos (show Int.natAbs 0 = 0 from rfl)]
theorem put_z0 {k q : Int} (h : k = 0) : k * zQ q < 1 * zQ 53 := by
  have := zQ_pos 53
  rw [h, Int.zero_mul]; omega
/-- the exponent that the class keeps of k * 2 ^ q * 2 ^ b -/
def nx (k q b : Int) : Int := if k = 0 then b else b + q - nt k
theorem fit_z {v : Int} (h : v = 0 ∨ v = 1) : fits .boolean (.int (iI v)) = true := by rcases h with rfl | rfl <;> rfl
theorem fit_zP (P : Prop) [Decidable P] : fits .boolean (.int (iI (zP P))) = true := fit_z (by unfold zP; split <;> simp)
