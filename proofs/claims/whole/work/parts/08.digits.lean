/-! numbers by their digits of b bits -/
theorem emod_add_div (a b : Int) : a % b + b * (a / b) = a := by rw [Int.emod_def]; omega
def dg (b : Nat) (f : Int → Int) : Nat → Int
  | 0 => 0
  | n + 1 => dg b f n + f (n : Int) * 2 ^ (b * n)
theorem dg_congr {b : Nat} {f g : Int → Int} : ∀ (n : Nat), (∀ j : Int, 0 ≤ j → j < (n : Int) → f j = g j) → dg b f n = dg b g n
  | 0, _ => rfl
  | n + 1, h => by
    show dg b f n + _ = dg b g n + _
    rw [dg_congr n (fun j h1 h2 => h j h1 (by omega)), h (n : Int) (by omega) (by omega)]
theorem dg_out {b : Nat} {f : Int → Int} {n : Nat} {i v : Int} (h : (n : Int) ≤ i) : dg b (updI f i v) n = dg b f n := dg_congr n (fun j _ h2 => updI_n (by omega))
theorem dg_upd {b : Nat} {f : Int → Int} {i v : Int} (h0 : 0 ≤ i) : ∀ (n : Nat), i < (n : Int) → dg b (updI f i v) n = dg b f n + (v - f i) * 2 ^ (b * i.toNat)
  | 0, h => by omega
  | n + 1, h => by
    show dg b (updI f i v) n + updI f i v (n : Int) * 2 ^ (b * n) = dg b f n + f (n : Int) * 2 ^ (b * n) + _
    by_cases hi : i = (n : Int)
    · subst hi
      rw [dg_out (Int.le_refl _), updI_s, Int.toNat_natCast, Int.sub_mul]; omega
    · rw [dg_upd h0 n (by omega), updI_n (fun q => hi q.symm)]; omega
theorem dg_zero {b : Nat} {f : Int → Int} : ∀ (n : Nat), (∀ j : Int, 0 ≤ j → j < (n : Int) → f j = 0) → dg b f n = 0
  | 0, _ => rfl
  | n + 1, h => by
    show dg b f n + _ = 0
    rw [dg_zero n (fun j h1 h2 => h j h1 (by omega)), h (n : Int) (by omega) (by omega), Int.zero_mul]; rfl
theorem dg_neg {b : Nat} {f g : Int → Int} : ∀ (n : Nat), (∀ j : Int, 0 ≤ j → j < (n : Int) → g j = -f j) → dg b g n = -dg b f n
  | 0, _ => rfl
  | n + 1, h => by
    show dg b g n + _ = -(dg b f n + _)
    rw [dg_neg n (fun j h1 h2 => h j h1 (by omega)), h (n : Int) (by omega) (by omega), Int.neg_mul]; omega
def nrm (b : Nat) (f : Int → Int) (n : Nat) : Prop := ∀ j : Int, 0 ≤ j → j < (n : Int) → 0 ≤ f j ∧ f j < 2 ^ b
theorem nrm.le {b : Nat} {f : Int → Int} {n m : Nat} (h : nrm b f n) (hm : m ≤ n) : nrm b f m := fun j h1 h2 => h j h1 (by omega)
theorem dg_range {b : Nat} {f : Int → Int} : ∀ (n : Nat), nrm b f n → 0 ≤ dg b f n ∧ dg b f n < 2 ^ (b * n)
  | 0, _ => by
    show (0 : Int) ≤ 0 ∧ (0 : Int) < 2 ^ (b * 0)
    rw [Nat.mul_zero]; decide
  | n + 1, h => by
    obtain ⟨h1, h2⟩ := dg_range n (h.le (Nat.le_succ n))
    obtain ⟨h3, h4⟩ := h (n : Int) (by omega) (by omega)
    have hp := p2_pos (b * n)
    show 0 ≤ dg b f n + f (n : Int) * 2 ^ (b * n) ∧ dg b f n + f (n : Int) * 2 ^ (b * n) < 2 ^ (b * (n + 1))
    rw [Nat.mul_succ, p2_add]
    have a1 := Int.mul_nonneg h3 (Int.le_of_lt hp)
    have a2 : (f (n : Int) + 1) * 2 ^ (b * n) ≤ 2 ^ b * 2 ^ (b * n) := Int.mul_le_mul_of_nonneg_right (by omega) (Int.le_of_lt hp)
    rw [Int.add_mul, Int.one_mul] at a2
    rw [Int.mul_comm (2 ^ (b * n)) (2 ^ b)]
    omega
/-- cut in two -/
theorem dg_split {b : Nat} {f : Int → Int} (k : Nat) : ∀ (m : Nat), dg b f (k + m) = dg b f k + 2 ^ (b * k) * dg b (fun j => f (j + k)) m
  | 0 => by show dg b f k = dg b f k + 2 ^ (b * k) * 0; omega
  | m + 1 => by
    show dg b f (k + m) + f ((k + m : Nat) : Int) * 2 ^ (b * (k + m)) = dg b f k + 2 ^ (b * k) * (dg b (fun j => f (j + k)) m + f ((m : Int) + k) * 2 ^ (b * m))
    rw [dg_split k m, Nat.mul_add, p2_add, show ((k + m : Nat) : Int) = (m : Int) + k by omega, Int.mul_add]
    rw [← Int.mul_assoc (f _), Int.mul_comm (f _) (2 ^ (b * k)), Int.mul_assoc (2 ^ (b * k)) (f _)]
    omega
theorem dg_one {b : Nat} {f : Int → Int} : ∀ (m : Nat), dg b f (m + 1) = f 0 + 2 ^ b * dg b (fun j => f (j + 1)) m := fun m => by
  rw [Nat.add_comm m 1, dg_split 1 m]
  show (0 + f ((0 : Nat) : Int) * 2 ^ (b * 0)) + 2 ^ (b * 1) * dg b (fun j => f (j + ((1 : Nat) : Int))) m = _
  rw [Nat.mul_zero, Nat.mul_one]
  show 0 + f 0 * 1 + _ = _
  rw [Int.mul_one, Int.zero_add]; rfl
theorem ediv_lo {a c p : Int} (hp : 0 < p) (h0 : 0 ≤ a) (h1 : a < p) : (a + p * c) / p = c := by
  rw [Int.add_mul_ediv_left _ _ (Int.ne_of_gt hp), Int.ediv_eq_zero_of_lt h0 h1, Int.zero_add]
theorem emod_lo {a c p : Int} (h0 : 0 ≤ a) (h1 : a < p) : (a + p * c) % p = a := by
  rw [Int.add_mul_emod_self_left, Int.emod_eq_of_lt h0 h1]
/-- what stands from a place on -/
theorem dg_from {b : Nat} {f : Int → Int} {k m : Nat} (h : nrm b f k) : dg b f (k + m) / 2 ^ (b * k) = dg b (fun j => f (j + k)) m := by
  obtain ⟨h1, h2⟩ := dg_range k h
  rw [dg_split k m]
  exact ediv_lo (p2_pos _) h1 h2
theorem dg_below {b : Nat} {f : Int → Int} {k m : Nat} (h : nrm b f k) : dg b f (k + m) % 2 ^ (b * k) = dg b f k := by
  obtain ⟨h1, h2⟩ := dg_range k h
  rw [dg_split k m]
  exact emod_lo h1 h2
theorem dg_digit {b : Nat} {f : Int → Int} {k m : Nat} (h : nrm b f (k + 1)) : dg b f (k + (m + 1)) / 2 ^ (b * k) % 2 ^ b = f (k : Int) := by
  rw [dg_from (h.le (by omega)), dg_one]
  obtain ⟨h3, h4⟩ := h (k : Int) (by omega) (by omega)
  rw [show (0 : Int) + (k : Int) = k by omega]
  exact emod_lo h3 h4
theorem dg_last {b : Nat} {f : Int → Int} {k : Nat} (h : nrm b f k) : dg b f (k + 1) / 2 ^ (b * k) = f (k : Int) := by
  rw [dg_from h, dg_one]
  show f (0 + (k : Int)) + 2 ^ b * 0 = _
  rw [Int.zero_add]; omega
/-- the same number has the same digits -/
theorem dg_inj {b : Nat} {f g : Int → Int} : ∀ (n : Nat), nrm b f n → nrm b g n → dg b f n = dg b g n → ∀ j : Int, 0 ≤ j → j < (n : Int) → f j = g j := by
  intro n hf hg h j h0 h1
  obtain ⟨k, rfl⟩ : ∃ k : Nat, j = (k : Int) := ⟨j.toNat, by omega⟩
  obtain ⟨m, rfl⟩ : ∃ m : Nat, n = k + (m + 1) := ⟨n - k - 1, by omega⟩
  rw [← dg_digit (m := m) (hf.le (by omega)), ← dg_digit (f := g) (m := m) (hg.le (by omega)), h]
