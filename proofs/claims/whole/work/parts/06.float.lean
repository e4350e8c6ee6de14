/-! doubles that are m * 2 ^ q -/
def dM (m q : Int) : UInt64 := FP.Core.of64 (FP.Core.roundRatio FP.Core.b64 (decide (m < 0)) m.natAbs 1 q)
def dOk (m q : Int) : Prop := (-9007199254740992 ≤ m ∧ m ≤ 9007199254740992) ∧ -1074 ≤ q ∧ q ≤ 971 ∧ (q = 971 → -9007199254740992 < m ∧ m < 9007199254740992)
theorem b64_qmin : FP.Core.b64.qmin = -1074 := by decide
theorem b64_qmax : FP.Core.b64.qmax = 971 := by decide
theorem b64_p : FP.Core.b64.p = 53 := rfl
theorem b64_tails : FP.Core.b64.tails = 4503599627370496 := by decide
theorem val_dM (m q : Int) : FP.Core.val64 (dM m q) = FP.Core.roundRatio FP.Core.b64 (decide (m < 0)) m.natAbs 1 q := FP.Core.val64_of64 (FP.Core.roundRatio_fits FP.Core.good_b64 _ _ (by decide) _)
theorem dM_fin {m q : Int} (h : dOk m q) : ∃ (c : Nat) (r : Int), FP.Core.val64 (dM m q) = .fin (decide (m < 0)) c r ∧ -1074 ≤ r ∧ c * 2 ^ (r + 1074).toNat = m.natAbs * 2 ^ (q + 1074).toNat := by
  obtain ⟨⟨h1, h2⟩, h3, h4⟩ := h
  rw [val_dM]
  by_cases hm : m.natAbs = 0
  · refine ⟨0, -1074, ?_, by omega, by rw [hm]; simp⟩
    rw [hm]; unfold FP.Core.roundRatio
    rw [if_pos rfl, b64_qmin]
  by_cases h53 : m.natAbs = 9007199254740992
  · refine ⟨4503599627370496, q + 1, FP.Core.roundRatio_exact FP.Core.good_b64 (by decide) ⟨by rw [b64_p]; decide, by rw [b64_qmin]; omega, by rw [b64_qmax]; omega, Or.inr (by rw [b64_tails]; decide)⟩ ?_, by omega, ?_⟩
    · rw [h53, show (q - (q + 1)).toNat = 0 by omega, show (q + 1 - q).toNat = 1 by omega]
    · rw [h53, show (q + 1 + 1074).toNat = (q + 1074).toNat + 1 by omega, Nat.pow_succ, Nat.mul_comm (2 ^ _) 2, ← Nat.mul_assoc]
  · generalize hn : m.natAbs = n at *
    have hn0 : 0 < n := by omega
    have hn1 : n < 9007199254740992 := by omega
    have l1 : 2 ^ n.log2 ≤ n := Nat.log2_self_le (by omega)
    have l2 : n < 2 ^ (n.log2 + 1) := Nat.lt_log2_self
    have l3 : n.log2 ≤ 52 := by
      rcases Nat.lt_or_ge 52 n.log2 with h | h
      · have := Nat.pow_le_pow_right (show 0 < 2 by decide) (show 53 ≤ n.log2 from h)
        have e : 2 ^ 53 = 9007199254740992 := by decide
        omega
      · exact h
    obtain ⟨j, hj1, hj2, hj3⟩ : ∃ j : Nat, j ≤ 52 - n.log2 ∧ (j : Int) ≤ q + 1074 ∧ (j = 52 - n.log2 ∨ (j : Int) = q + 1074) := by
      by_cases hc : ((52 - n.log2 : Nat) : Int) ≤ q + 1074
      · exact ⟨52 - n.log2, Nat.le_refl _, hc, Or.inl rfl⟩
      · exact ⟨(q + 1074).toNat, by omega, by omega, Or.inr (by omega)⟩
    refine ⟨n * 2 ^ j, q - j, FP.Core.roundRatio_exact FP.Core.good_b64 (by decide) ⟨?_, by rw [b64_qmin]; omega, by rw [b64_qmax]; omega, ?_⟩ ?_, by omega, ?_⟩
    · rw [b64_p]
      calc n * 2 ^ j < 2 ^ (n.log2 + 1) * 2 ^ j := Nat.mul_lt_mul_of_pos_right l2 (Nat.two_pow_pos j)
        _ = 2 ^ (n.log2 + 1 + j) := (Nat.pow_add 2 _ _).symm
        _ ≤ 2 ^ 53 := Nat.pow_le_pow_right (by decide) (by omega)
    · rcases hj3 with hj3 | hj3
      · right
        rw [b64_tails]
        calc 4503599627370496 = 2 ^ (n.log2 + j) := by rw [show n.log2 + j = 52 by omega]
          _ = 2 ^ n.log2 * 2 ^ j := Nat.pow_add 2 _ _
          _ ≤ n * 2 ^ j := Nat.mul_le_mul_right _ l1
      · left
        rw [b64_qmin]; omega
    · rw [show (q - (q - (j : Int))).toNat = j by omega, show (q - (j : Int) - q).toNat = 0 by omega]; simp
    · rw [Nat.mul_assoc, ← Nat.pow_add, show j + (q - (j : Int) + 1074).toNat = (q + 1074).toNat by omega]
theorem pw_cancel {A B : Nat} {a b E : Int} (ha : 0 ≤ a + E) (hb : 0 ≤ b + E) (h : A * 2 ^ (a + E).toNat = B * 2 ^ (b + E).toNat) : A * 2 ^ (a - b).toNat = B * 2 ^ (b - a).toNat := by
  rcases Int.le_total a b with hab | hab
  · rw [show (b + E).toNat = (b - a).toNat + (a + E).toNat by omega, Nat.pow_add, ← Nat.mul_assoc] at h
    rw [show (a - b).toNat = 0 by omega, Nat.pow_zero, Nat.mul_one]
    exact Nat.eq_of_mul_eq_mul_right (Nat.two_pow_pos _) h
  · rw [show (a + E).toNat = (a - b).toNat + (b + E).toNat by omega, Nat.pow_add, ← Nat.mul_assoc] at h
    rw [show (b - a).toNat = 0 by omega, Nat.pow_zero, Nat.mul_one]
    exact Nat.eq_of_mul_eq_mul_right (Nat.two_pow_pos _) h
theorem of_round {s t : Bool} {A B : Nat} {a b E : Int} (hs : s = t) (ha : 0 ≤ a + E) (hb : 0 ≤ b + E) (h : A * 2 ^ (a + E).toNat = B * 2 ^ (b + E).toNat) : FP.Core.of64 (FP.Core.roundRatio FP.Core.b64 s A 1 a) = FP.Core.of64 (FP.Core.roundRatio FP.Core.b64 t B 1 b) := by
  subst hs
  rw [FP.Core.roundRatio_congr (A' := B) (B' := 1) (e' := b) (by decide) (by decide) (by rw [Nat.mul_one, Nat.mul_one]; exact pw_cancel ha hb h)]
/-- the same number, written otherwise -/
theorem dM_up (m : Int) (j : Nat) {q : Int} : dM (m * 2 ^ j) q = dM m (q + j) := by
  have hp := p2_pos j
  have hsg : (m * 2 ^ j < 0) ↔ m < 0 := by
    constructor
    · intro h
      rcases int_lt_ge m 0 with h1 | h1
      · exact h1
      · have := Int.mul_nonneg h1 (Int.le_of_lt hp); omega
    · intro h; exact Int.mul_neg_of_neg_of_pos h hp
  have e : (m * 2 ^ j).natAbs = m.natAbs * 2 ^ j := by
    rw [Int.natAbs_mul, ← p2_nat, Int.natAbs_natCast]
  unfold dM
  rw [e, show decide (m * 2 ^ j < 0) = decide (m < 0) from decide_eq_decide.mpr hsg, FP.Core.roundRatio_congr (A' := m.natAbs) (B' := 1) (e' := q + j) (by decide) (by decide) (by rw [show (q - (q + (j : Int))).toNat = 0 by omega, show (q + (j : Int) - q).toNat = j by omega]; simp)]
theorem dmul_dM {m q m' q' : Int} (h : dOk m q) (h' : dOk m' q') (hp : 0 < m') : FP.dmul (dM m q) (dM m' q') = dM (m * m') (q + q') := by
  obtain ⟨c, r, h1, h2, h3⟩ := dM_fin h
  obtain ⟨c', r', h1', h2', h3'⟩ := dM_fin h'
  show FP.Core.of64 (FP.Core.round FP.Core.b64 (FP.Core.exactProduct (FP.Core.val64 (dM m q)) (FP.Core.val64 (dM m' q')))) = _
  rw [h1, h1']
  show FP.Core.of64 (FP.Core.roundRatio FP.Core.b64 (decide (m < 0) != decide (m' < 0)) (c * c') 1 (r + r')) = FP.Core.of64 (FP.Core.roundRatio FP.Core.b64 (decide (m * m' < 0)) (m * m').natAbs 1 (q + q'))
  refine of_round (E := 2148) ?_ (by omega) (by have := h.2; have := h'.2; omega) ?_
  · have e1 : decide (m' < 0) = false := decide_eq_false (by omega)
    have e2 : (m * m' < 0) ↔ m < 0 := by
      constructor
      · intro hh
        rcases int_lt_ge m 0 with q1 | q1
        · exact q1
        · have := Int.mul_nonneg q1 (Int.le_of_lt hp); omega
      · intro hh; exact Int.mul_neg_of_neg_of_pos hh hp
    rw [e1, show decide (m * m' < 0) = decide (m < 0) from decide_eq_decide.mpr e2]; simp
  · have g1 := h.2
    have g2 := h'.2
    rw [show (r + r' + 2148).toNat = (r + 1074).toNat + (r' + 1074).toNat by omega, show (q + q' + 2148).toNat = (q + 1074).toNat + (q' + 1074).toNat by omega, Nat.pow_add, Nat.pow_add, Int.natAbs_mul]
    calc c * c' * (2 ^ (r + 1074).toNat * 2 ^ (r' + 1074).toNat) = (c * 2 ^ (r + 1074).toNat) * (c' * 2 ^ (r' + 1074).toNat) := by simp only [Nat.mul_assoc, Nat.mul_left_comm, Nat.mul_comm]
      _ = (m.natAbs * 2 ^ (q + 1074).toNat) * (m'.natAbs * 2 ^ (q' + 1074).toNat) := by rw [h3, h3']
      _ = _ := by simp only [Nat.mul_assoc, Nat.mul_left_comm, Nat.mul_comm]
theorem dsub_dM {m q : Int} (h : dOk m q) : FP.dsub (dM 0 0) (dM m q) = dM (-m) q := by
  obtain ⟨c, r, h1, h2, h3⟩ := dM_fin h
  have h0 : FP.Core.val64 (dM 0 0) = .fin false 0 (-1074) := by decide +kernel
  show FP.Core.of64 (FP.Core.round FP.Core.b64 (FP.Core.exactSum (FP.Core.val64 (dM 0 0)) (FP.Core.negate (FP.Core.val64 (dM m q))))) = _
  rw [h0, h1]
  have hmin : min (-1074) r = -1074 := by omega
  have hu : FP.Core.sumUnits false 0 (-1074) (!decide (m < 0)) c r (-1074) = FP.Core.signed (!decide (m < 0)) (c * 2 ^ (r + 1074).toNat) := by
    unfold FP.Core.sumUnits FP.Core.inUnits
    rw [show (r - -1074).toNat = (r + 1074).toNat by omega]
    simp [FP.Core.signed]
  show FP.Core.of64 (FP.Core.roundRatio FP.Core.b64 (FP.Core.sumSign false (!decide (m < 0)) (FP.Core.sumUnits false 0 (-1074) (!decide (m < 0)) c r (min (-1074) r))) (FP.Core.sumUnits false 0 (-1074) (!decide (m < 0)) c r (min (-1074) r)).natAbs 1 (min (-1074) r)) = FP.Core.of64 (FP.Core.roundRatio FP.Core.b64 (decide (-m < 0)) (-m).natAbs 1 q)
  rw [hmin, hu, h3]
  have g2 := h.2
  generalize hX : m.natAbs * 2 ^ (q + 1074).toNat = X at *
  have hX0 : X = 0 ↔ m = 0 := by
    rw [← hX, Nat.mul_eq_zero]
    have := Nat.two_pow_pos (q + 1074).toNat
    omega
  refine of_round (E := 1074) ?_ (by omega) (by omega) ?_
  · by_cases hm : m < 0
    · rw [decide_eq_true hm, decide_eq_false (show ¬ (-m < 0) by omega)]
      show (if ((X : Nat) : Int) = 0 then (false && false) else decide (((X : Nat) : Int) < 0)) = false
      split
      · rfl
      · exact decide_eq_false (by omega)
    · by_cases hm0 : m = 0
      · have hx0 := hX0.mpr hm0
        rw [decide_eq_false hm, decide_eq_false (show ¬ (-m < 0) by omega), hx0]; rfl
      · have hx0 : X ≠ 0 := fun q => hm0 (hX0.mp q)
        rw [decide_eq_false hm, decide_eq_true (show -m < 0 by omega)]
        show (if -((X : Nat) : Int) = 0 then (false && true) else decide (-((X : Nat) : Int) < 0)) = true
        rw [if_neg (by omega)]
        exact decide_eq_true (by omega)
  · have e : (FP.Core.signed (!decide (m < 0)) X).natAbs = X := by
      unfold FP.Core.signed
      by_cases hm : m < 0 <;> simp [hm]
    rw [e, Int.natAbs_neg, hX]; simp
theorem zd_dM {m q : Int} (h : dOk m q) : FP.Core.zval FP.Core.b64 (FP.Core.val64 (dM m q)) = m * 2 ^ (q + 1074).toNat := by
  obtain ⟨c, r, h1, h2, h3⟩ := dM_fin h
  rw [h1]
  show FP.Core.signed (decide (m < 0)) (FP.Core.inUnits c r FP.Core.b64.qmin) = _
  unfold FP.Core.inUnits
  rw [b64_qmin, show (r - -1074).toNat = (r + 1074).toNat by omega, h3]
  unfold FP.Core.signed
  have e : ((m.natAbs * 2 ^ (q + 1074).toNat : Nat) : Int) = (m.natAbs : Int) * 2 ^ (q + 1074).toNat := by rw [Int.natCast_mul, p2_nat]
  by_cases hm : m < 0
  · simp only [hm, decide_true, if_true]
    rw [e, show (m.natAbs : Int) = -m by omega, Int.neg_mul, Int.neg_neg]
  · simp only [hm, decide_false]
    rw [if_neg (by decide), e, show (m.natAbs : Int) = m by omega]
theorem dM_nn {m q : Int} (h : dOk m q) : FP.Core.val64 (dM m q) ≠ .nan := by
  obtain ⟨c, r, h1, -⟩ := dM_fin h
  rw [h1]; exact fun q => by cases q
theorem dcmp_dM {m q m' q' : Int} (h : dOk m q) (h' : dOk m' q') : FP.dcmp (dM m q) (dM m' q') = some (compare (m * 2 ^ (q + 1074).toNat) (m' * 2 ^ (q' + 1074).toNat)) := by
  rw [← zd_dM h, ← zd_dM h']
  exact FP.Core.dcmp_zval (dM_nn h) (dM_nn h')
theorem n64_of {a : UInt64} (h : FP.Core.val64 a ≠ .nan) : vf_n64 a := by
  have h1 := (FP.Core.ne_nan a).mp h
  unfold vf_n64
  rw [UInt64.le_iff_toNat_le, UInt64.toNat_and]
  have e : (0x7fffffffffffffff : UInt64).toNat = 2 ^ 63 - 1 := rfl
  rw [e, Nat.and_two_pow_sub_one_eq_mod]
  exact h1
theorem dM_n64 {m q : Int} (h : dOk m q) : vf_n64 (dM m q) := n64_of (dM_nn h)
theorem l2d_dM {a : Int} (h : -9223372036854775808 ≤ a ∧ a < 9223372036854775808) : FP.l2d (lI a) = dM a 0 := by
  show FP.Core.of64 (FP.Core.round FP.Core.b64 (FP.Core.ofInt (lI a).toInt)) = _
  rw [lI_toInt h]; rfl
theorem i2d_dM {a : Int} (h : -2147483648 ≤ a ∧ a < 2147483648) : FP.i2d (iI a) = dM a 0 := by
  show FP.Core.of64 (FP.Core.round FP.Core.b64 (FP.Core.ofInt (iI a).toInt)) = _
  rw [iI_toInt h]; rfl
theorem rr_neg (f : FP.Core.Fmt) (s : Bool) (A B : Nat) (e : Int) : FP.Core.negate (FP.Core.roundRatio f s A B e) = FP.Core.roundRatio f (!s) A B e := by
  unfold FP.Core.roundRatio
  split
  · rfl
  · unfold FP.Core.roundAt FP.Core.settle FP.Core.bound
    split <;> split <;> rfl
theorem dneg_dM {m q : Int} (h : dOk m q) (hm : m ≠ 0) : FP.dneg (dM m q) = dM (-m) q := by
  have h' : dOk (-m) q := by unfold dOk at *; omega
  apply Eq.symm
  apply FP.Core.val64_inj (dM_nn h')
  rw [FP.val64_dneg, val_dM, val_dM, Int.natAbs_neg, rr_neg]
  congr 1
  by_cases hc : m < 0
  · simp [hc]; omega
  · simp [hc]; omega
theorem d2l_dM {m : Int} {j : Nat} (h : dOk m j) (hr : -9223372036854775808 ≤ m * 2 ^ j ∧ m * 2 ^ j < 9223372036854775808) : FP.d2l (dM m j) = lI (m * 2 ^ j) := by
  obtain ⟨c, r, h1, h2, h3⟩ := dM_fin h
  refine FP.Core.d2l_int ?_
  rw [lI_toInt hr]
  show FP.Core.Whole (m * 2 ^ j) (FP.Core.val64 (dM m j))
  rw [h1]
  show FP.Core.signed (decide (m < 0)) (c * 2 ^ r.toNat) = m * 2 ^ j * ((2 ^ (-r).toNat : Nat) : Int)
  have h4 := pw_cancel (a := r) (b := (j : Int)) (E := 1074) (by omega) (by omega) h3
  have h5 : c * 2 ^ r.toNat = m.natAbs * 2 ^ j * 2 ^ (-r).toNat := by
    rcases Int.le_total r j with q1 | q1
    · rw [show (r - (j : Int)).toNat = 0 by omega, Nat.pow_zero, Nat.mul_one] at h4
      rw [h4, Nat.mul_assoc, ← Nat.pow_add, Nat.mul_assoc, ← Nat.pow_add]
      congr 2; omega
    · rw [show ((j : Int) - r).toNat = 0 by omega, Nat.pow_zero, Nat.mul_one] at h4
      rw [← h4, show (-r).toNat = 0 by omega, Nat.pow_zero, Nat.mul_one, Nat.mul_assoc, ← Nat.pow_add]
      congr 2; omega
  rw [h5]
  unfold FP.Core.signed
  have e : ((m.natAbs * 2 ^ j * 2 ^ (-r).toNat : Nat) : Int) = (m.natAbs : Int) * 2 ^ j * ((2 ^ (-r).toNat : Nat) : Int) := by rw [Int.natCast_mul, Int.natCast_mul, p2_nat]
  by_cases hm : m < 0
  · simp only [hm, decide_true, if_true]
    rw [e, show (m.natAbs : Int) = -m by omega, Int.neg_mul, Int.neg_mul, Int.neg_neg]
  · simp only [hm, decide_false]
    rw [if_neg (by decide), e, show (m.natAbs : Int) = m by omega]
section XD
variable {p : Program} {l : Launch} {e : Env} {R : Room} {s : State} {m : MethodId} {args : Array Value} {below : List Frame} {meth : Method} {c : Code} {H : Heap} {locs : List Loc} {cells slots : Nat} {Q : State → Prop}
variable {cc : ByteArray} {pc : Nat} {ls : Array Slot} {rest : List Value}
theorem x_i2d (hx : p.tables.exec = Jvm.exec) (hb : c.code = cc) {a : Int} (hdg : decode cc pc = .ok (.i2d, 1)) (ha : -2147483648 ≤ a ∧ a < 2147483648) (k : W p l e R s m args below meth c H locs cells slots Q (F0 m (pc + 1) ls (.double (dM a 0) :: rest))) : W p l e R s m args below meth c H locs cells slots Q (F0 m pc ls (.int (iI a) :: rest)) := lv_i2d hx hb hdg (by rw [i2d_dM ha]; exact k)
theorem x_l2d (hx : p.tables.exec = Jvm.exec) (hb : c.code = cc) {a : Int} (hdg : decode cc pc = .ok (.l2d, 1)) (ha : -9223372036854775808 ≤ a ∧ a < 9223372036854775808) (k : W p l e R s m args below meth c H locs cells slots Q (F0 m (pc + 1) ls (.double (dM a 0) :: rest))) : W p l e R s m args below meth c H locs cells slots Q (F0 m pc ls (.long (lI a) :: rest)) := lv_l2d hx hb hdg (by rw [l2d_dM ha]; exact k)
theorem x_d2l (hx : p.tables.exec = Jvm.exec) (hb : c.code = cc) {a : Int} {j : Nat} (hdg : decode cc pc = .ok (.d2l, 1)) (h : dOk a j) (hr : -9223372036854775808 ≤ a * 2 ^ j ∧ a * 2 ^ j < 9223372036854775808) (k : W p l e R s m args below meth c H locs cells slots Q (F0 m (pc + 1) ls (.long (lI (a * 2 ^ j)) :: rest))) : W p l e R s m args below meth c H locs cells slots Q (F0 m pc ls (.double (dM a (j : Int)) :: rest)) := lv_d2l hx hb hdg (by rw [d2l_dM h hr]; exact k)
/-- times a power of two -/
theorem x_dmul1 (hx : p.tables.exec = Jvm.exec) (hb : c.code = cc) {a q r : Int} (hdg : decode cc pc = .ok (.dmul, 1)) (h : dOk a q) (hr : dOk 1 r) (h2 : dOk a (q + r)) (k : W p l e R s m args below meth c H locs cells slots Q (F0 m (pc + 1) ls (.double (dM a (q + r)) :: rest))) : W p l e R s m args below meth c H locs cells slots Q (F0 m pc ls (.double (dM 1 r) :: .double (dM a q) :: rest)) := by
  have e1 : FP.dmul (dM a q) (dM 1 r) = dM a (q + r) := by rw [dmul_dM h hr (by decide), Int.mul_one]
  exact lv_dmul hx hb hdg (by rw [e1]; exact dM_n64 h2) (by rw [e1]; exact k)
theorem x_dneg (hx : p.tables.exec = Jvm.exec) (hb : c.code = cc) {a q : Int} (hdg : decode cc pc = .ok (.dneg, 1)) (h : dOk a q) (h0 : a ≠ 0) (k : W p l e R s m args below meth c H locs cells slots Q (F0 m (pc + 1) ls (.double (dM (-a) q) :: rest))) : W p l e R s m args below meth c H locs cells slots Q (F0 m pc ls (.double (dM a q) :: rest)) := lv_dneg hx hb hdg (by rw [dneg_dM h h0]; exact k)
theorem x_dsub0 (hx : p.tables.exec = Jvm.exec) (hb : c.code = cc) {a q : Int} (hdg : decode cc pc = .ok (.dsub, 1)) (h : dOk a q) (k : W p l e R s m args below meth c H locs cells slots Q (F0 m (pc + 1) ls (.double (dM (-a) q) :: rest))) : W p l e R s m args below meth c H locs cells slots Q (F0 m pc ls (.double (dM a q) :: .double (dM 0 0) :: rest)) := by
  have h' : dOk (-a) q := by unfold dOk at *; omega
  exact lv_dsub hx hb hdg (by rw [dsub_dM h]; exact dM_n64 h') (by rw [dsub_dM h]; exact k)
theorem x_dconst0 (hx : p.tables.exec = Jvm.exec) (hb : c.code = cc) (hdg : decode cc pc = .ok (.dconst 0, 1)) (k : W p l e R s m args below meth c H locs cells slots Q (F0 m (pc + 1) ls (.double (dM 0 0) :: rest))) : W p l e R s m args below meth c H locs cells slots Q (F0 m pc ls rest) := lv_dconst0 hx hb hdg (by rw [show FP.dconst0 = dM 0 0 by decide +kernel]; exact k)
theorem x_dconst1 (hx : p.tables.exec = Jvm.exec) (hb : c.code = cc) (hdg : decode cc pc = .ok (.dconst 1, 1)) (k : W p l e R s m args below meth c H locs cells slots Q (F0 m (pc + 1) ls (.double (dM 1 0) :: rest))) : W p l e R s m args below meth c H locs cells slots Q (F0 m pc ls rest) := lv_dconst1 hx hb hdg (by rw [show FP.dconst1 = dM 1 0 by decide +kernel]; exact k)
def zQ (q : Int) : Int := 2 ^ (q + 1074).toNat
theorem zQ_pos (q : Int) : 0 < zQ q := p2_pos _
theorem zQ_add {q : Int} (h : -1074 ≤ q) (j : Nat) : zQ (q + j) = 2 ^ j * zQ q := by
  unfold zQ
  rw [← p2_add]; congr 1; omega
theorem dc_val {a q a' q' : Int} (h : dOk a q) (h' : dOk a' q') (op : CmpOp) : Op.cmpValue (FP.dcmp (dM a q) (dM a' q')) op = iI (lcI (a * zQ q) (a' * zQ q')) := by
  rw [dcmp_dM h h']
  show Op.cmpValue (some (compare (a * zQ q) (a' * zQ q'))) op = _
  generalize a * zQ q = X
  generalize a' * zQ q' = Y
  rw [FP.Core.compare_ite]
  unfold lcI
  by_cases h1 : X < Y
  · rw [if_pos h1, if_neg (by omega), if_neg (by omega)]; cases op <;> rfl
  · rw [if_neg h1]
    by_cases h2 : X = Y
    · rw [if_pos h2, if_neg (by omega), if_pos h2]; cases op <;> rfl
    · rw [if_neg h2, if_pos (by omega)]; cases op <;> rfl
theorem x_dcmp_eq (hx : p.tables.exec = Jvm.exec) (hb : c.code = cc) {a q a' q' : Int} {o : CmpOp} {off : Int} {tgt : Nat} (hd0 : decode cc pc = .ok (.dcmp o, 1)) (hdg : decode cc (pc + 1) = .ok (.ifCond .eq off, 3)) (ht : ((pc + 1 : Nat) : Int) + off = (tgt : Int)) (h : dOk a q) (h' : dOk a' q') (kt : a * zQ q = a' * zQ q' → W p l e R s m args below meth c H locs cells slots Q (F0 m tgt ls rest)) (kf : ¬ (a * zQ q = a' * zQ q') → W p l e R s m args below meth c H locs cells slots Q (F0 m (pc + 1 + 3) ls rest)) : W p l e R s m args below meth c H locs cells slots Q (F0 m pc ls (.double (dM a' q') :: .double (dM a q) :: rest)) := lv_dcmp hx hb hd0 (by rw [dc_val h h']; exact x_if_eq hx hb hdg ht (by have := lcI_r (a * zQ q) (a' * zQ q'); omega) (fun h => kt ((lcI_eq _ _).mp h)) (fun h => kf (fun q => h ((lcI_eq _ _).mpr q))))
theorem x_dcmp_ne (hx : p.tables.exec = Jvm.exec) (hb : c.code = cc) {a q a' q' : Int} {o : CmpOp} {off : Int} {tgt : Nat} (hd0 : decode cc pc = .ok (.dcmp o, 1)) (hdg : decode cc (pc + 1) = .ok (.ifCond .ne off, 3)) (ht : ((pc + 1 : Nat) : Int) + off = (tgt : Int)) (h : dOk a q) (h' : dOk a' q') (kt : a * zQ q ≠ a' * zQ q' → W p l e R s m args below meth c H locs cells slots Q (F0 m tgt ls rest)) (kf : a * zQ q = a' * zQ q' → W p l e R s m args below meth c H locs cells slots Q (F0 m (pc + 1 + 3) ls rest)) : W p l e R s m args below meth c H locs cells slots Q (F0 m pc ls (.double (dM a' q') :: .double (dM a q) :: rest)) := lv_dcmp hx hb hd0 (by rw [dc_val h h']; exact x_if_ne hx hb hdg ht (by have := lcI_r (a * zQ q) (a' * zQ q'); omega) (fun h => kt ((lcI_ne _ _).mp h)) (fun h => kf ((lcI_eq _ _).mp h)))
theorem x_dcmp_lt (hx : p.tables.exec = Jvm.exec) (hb : c.code = cc) {a q a' q' : Int} {o : CmpOp} {off : Int} {tgt : Nat} (hd0 : decode cc pc = .ok (.dcmp o, 1)) (hdg : decode cc (pc + 1) = .ok (.ifCond .lt off, 3)) (ht : ((pc + 1 : Nat) : Int) + off = (tgt : Int)) (h : dOk a q) (h' : dOk a' q') (kt : a * zQ q < a' * zQ q' → W p l e R s m args below meth c H locs cells slots Q (F0 m tgt ls rest)) (kf : ¬ (a * zQ q < a' * zQ q') → W p l e R s m args below meth c H locs cells slots Q (F0 m (pc + 1 + 3) ls rest)) : W p l e R s m args below meth c H locs cells slots Q (F0 m pc ls (.double (dM a' q') :: .double (dM a q) :: rest)) := lv_dcmp hx hb hd0 (by rw [dc_val h h']; exact x_if_lt hx hb hdg ht (by have := lcI_r (a * zQ q) (a' * zQ q'); omega) (fun h => kt ((lcI_lt _ _).mp h)) (fun h => kf (fun q => h ((lcI_lt _ _).mpr q))))
theorem x_dcmp_ge (hx : p.tables.exec = Jvm.exec) (hb : c.code = cc) {a q a' q' : Int} {o : CmpOp} {off : Int} {tgt : Nat} (hd0 : decode cc pc = .ok (.dcmp o, 1)) (hdg : decode cc (pc + 1) = .ok (.ifCond .ge off, 3)) (ht : ((pc + 1 : Nat) : Int) + off = (tgt : Int)) (h : dOk a q) (h' : dOk a' q') (kt : a' * zQ q' ≤ a * zQ q → W p l e R s m args below meth c H locs cells slots Q (F0 m tgt ls rest)) (kf : ¬ (a' * zQ q' ≤ a * zQ q) → W p l e R s m args below meth c H locs cells slots Q (F0 m (pc + 1 + 3) ls rest)) : W p l e R s m args below meth c H locs cells slots Q (F0 m pc ls (.double (dM a' q') :: .double (dM a q) :: rest)) := lv_dcmp hx hb hd0 (by rw [dc_val h h']; exact x_if_ge hx hb hdg ht (by have := lcI_r (a * zQ q) (a' * zQ q'); omega) (fun h => kt ((lcI_ge _ _).mp h)) (fun h => kf (fun q => h ((lcI_ge _ _).mpr q))))
theorem x_dcmp_gt (hx : p.tables.exec = Jvm.exec) (hb : c.code = cc) {a q a' q' : Int} {o : CmpOp} {off : Int} {tgt : Nat} (hd0 : decode cc pc = .ok (.dcmp o, 1)) (hdg : decode cc (pc + 1) = .ok (.ifCond .gt off, 3)) (ht : ((pc + 1 : Nat) : Int) + off = (tgt : Int)) (h : dOk a q) (h' : dOk a' q') (kt : a' * zQ q' < a * zQ q → W p l e R s m args below meth c H locs cells slots Q (F0 m tgt ls rest)) (kf : ¬ (a' * zQ q' < a * zQ q) → W p l e R s m args below meth c H locs cells slots Q (F0 m (pc + 1 + 3) ls rest)) : W p l e R s m args below meth c H locs cells slots Q (F0 m pc ls (.double (dM a' q') :: .double (dM a q) :: rest)) := lv_dcmp hx hb hd0 (by rw [dc_val h h']; exact x_if_gt hx hb hdg ht (by have := lcI_r (a * zQ q) (a' * zQ q'); omega) (fun h => kt ((lcI_gt _ _).mp h)) (fun h => kf (fun q => h ((lcI_gt _ _).mpr q))))
theorem x_dcmp_le (hx : p.tables.exec = Jvm.exec) (hb : c.code = cc) {a q a' q' : Int} {o : CmpOp} {off : Int} {tgt : Nat} (hd0 : decode cc pc = .ok (.dcmp o, 1)) (hdg : decode cc (pc + 1) = .ok (.ifCond .le off, 3)) (ht : ((pc + 1 : Nat) : Int) + off = (tgt : Int)) (h : dOk a q) (h' : dOk a' q') (kt : a * zQ q ≤ a' * zQ q' → W p l e R s m args below meth c H locs cells slots Q (F0 m tgt ls rest)) (kf : ¬ (a * zQ q ≤ a' * zQ q') → W p l e R s m args below meth c H locs cells slots Q (F0 m (pc + 1 + 3) ls rest)) : W p l e R s m args below meth c H locs cells slots Q (F0 m pc ls (.double (dM a' q') :: .double (dM a q) :: rest)) := lv_dcmp hx hb hd0 (by rw [dc_val h h']; exact x_if_le hx hb hdg ht (by have := lcI_r (a * zQ q) (a' * zQ q'); omega) (fun h => kt ((lcI_le _ _).mp h)) (fun h => kf (fun q => h ((lcI_le _ _).mpr q))))
theorem x_ldc2d (hx : p.tables.exec = Jvm.exec) (hb : c.code = cc) {own : String} {index : Nat} {v : UInt64} (a q : Int) (hv : v = dM a q) (hown : s.vm.findClass own = some m.cls) (hconst : (Jvm.Cond.constantDouble own index v).before args s = true) (hdg : decode cc pc = .ok (.ldc2_w index, 3)) (k : W p l e R s m args below meth c H locs cells slots Q (F0 m (pc + 3) ls (.double (dM a q) :: rest))) : W p l e R s m args below meth c H locs cells slots Q (F0 m pc ls rest) := lv_ldc2d hx hb hown hconst hdg (by rw [hv]; exact k)
end XD
