/-! the reference: numbers, limbs of 16 bits -/
theorem num_lo {k q : Int} (h0 : 0 < k) (hq : -3 ≤ q ∧ q ≤ 0) (h : k * zQ q < 1 * zQ (-60)) : False := by
  have h1 := zQ_le (show (-60 : Int) ≤ q by omega)
  have h2 := zQ_pos q
  have a1 : 1 * zQ q ≤ k * zQ q := Int.mul_le_mul_of_nonneg_right (by omega) (by omega)
  omega
def trm (f : Int → Int) : Nat → Nat
  | 0 => 0
  | n + 1 => if f (n : Int) = 0 then trm f n else n + 1
theorem trm_s {f : Int → Int} {t : Int} (ht : 0 < t) (h : f (t - 1) = 0) : trm f t.toNat = trm f (t - 1).toNat := by
  obtain ⟨k, hk⟩ : ∃ k : Nat, t.toNat = k + 1 := ⟨t.toNat - 1, by omega⟩
  rw [hk, show (t - 1).toNat = k by omega]
  show (if f (k : Int) = 0 then trm f k else k + 1) = _
  rw [if_pos (by rw [show (k : Int) = t - 1 by omega]; exact h)]
theorem trm_e {f : Int → Int} {t : Int} (ht : 0 < t) (h : f (t - 1) ≠ 0) : trm f t.toNat = t.toNat := by
  obtain ⟨k, hk⟩ : ∃ k : Nat, t.toNat = k + 1 := ⟨t.toNat - 1, by omega⟩
  rw [hk]
  show (if f (k : Int) = 0 then trm f k else k + 1) = _
  rw [if_neg (by rw [show (k : Int) = t - 1 by omega]; exact h)]
theorem trm_le {f : Int → Int} : ∀ n : Nat, trm f n ≤ n
  | 0 => Nat.le_refl _
  | n + 1 => by
    show (if f (n : Int) = 0 then trm f n else n + 1) ≤ n + 1
    have := trm_le (f := f) n
    split <;> omega
theorem trm_dg {b : Nat} {f : Int → Int} : ∀ n : Nat, dg b f (trm f n) = dg b f n
  | 0 => rfl
  | n + 1 => by
    show dg b f (if f (n : Int) = 0 then trm f n else n + 1) = dg b f n + f (n : Int) * 2 ^ (b * n)
    split
    · rename_i h
      rw [trm_dg n, h, Int.zero_mul, Int.add_zero]
    · rfl
theorem trm_top {f : Int → Int} : ∀ n : Nat, 0 < trm f n → f ((trm f n : Int) - 1) ≠ 0
  | 0, h => absurd h (Nat.lt_irrefl 0)
  | n + 1, h => by
    by_cases hz : f (n : Int) = 0
    · have e : trm f (n + 1) = trm f n := if_pos hz
      rw [e] at h ⊢
      exact trm_top n h
    · have e : trm f (n + 1) = n + 1 := if_neg hz
      rw [e]
      rw [show ((n + 1 : Nat) : Int) - 1 = (n : Int) by omega]
      exact hz
theorem tp_half {x : Int} (h : 0 < x) : tp (x / 2) = tp x - 1 := by
  obtain ⟨a, ha, h1, h2⟩ := tp_spec h
  rw [ha]
  rcases (show a = 0 ∨ 0 < a by omega) with rfl | q
  · have : x = 1 := by
      have e0 : (2 : Int) ^ 0 = 1 := rfl
      have e1 : (2 : Int) ^ (0 + 1) = 2 := rfl
      omega
    subst this; rfl
  · obtain ⟨c, rfl⟩ : ∃ c : Nat, a = c + 1 := ⟨a - 1, by omega⟩
    have e1 : (2 : Int) ^ (c + 1) = 2 ^ c * 2 := Int.pow_succ 2 c
    have e2 : (2 : Int) ^ (c + 1 + 1) = 2 ^ (c + 1) * 2 := Int.pow_succ 2 (c + 1)
    have := tp_eq (V := x / 2) (k := c) (by omega) (by omega)
    omega

set_option maxHeartbeats 4000000 in
set_option maxRecDepth 100000 in
theorem c_Mo_in (l : Launch) (D : va_G) (aC : Nat → ClassId) (v lo hi : Int) (hv : -2147483648 ≤ v ∧ v < 2147483648) (hlo : -2147483648 ≤ lo ∧ lo < 2147483648) (hhi : -2147483648 ≤ hi ∧ hi < 2147483648) : CR l D aC y_Mo_in (rd 0 0) [.int (iI v), .int (iI lo), .int (iI hi)] [] (fun u => u = some (.int (iI (zP (lo ≤ v ∧ v ≤ hi))))) := by
  refine CR.of (cc := b_Mo_in) (maxL := 3) (ret := (some .boolean)) (by decide +kernel) k_Mo_in (Nat.le_of_ble_eq_true rfl) ?_
  intro p e s m below meth c Q S hr hlocks hQ hK hN hP ls hl
  obtain ⟨hx, hb, hml, hown, hts⟩ := id S
  have hl : lv_has ls 3 [(0, .int (iI v)), (1, .int (iI lo)), (2, .int (iI hi))] := hl
  refine lv_iload_n hx hb d_Mo_in_0 rfl (lv_at hl 0 rfl) ?_
  refine lv_iload_n hx hb d_Mo_in_1 rfl (lv_at hl 1 rfl) ?_
  refine x_icmp_lt (tgt := 14) hx hb d_Mo_in_2 (by decide) (by omega) (by omega) (fun c_2 => ?_) (fun c_2 => ?_)
  · refine lv_iconst (v := iI 0) hx hb d_Mo_in_14 rfl ?_
    exact y_zret hx hb hr (rfl) hlocks hQ (by rw [zP_f (by omega)]) d_Mo_in_15
  · refine lv_iload_n hx hb d_Mo_in_5 rfl (lv_at hl 0 rfl) ?_
    refine lv_iload_n hx hb d_Mo_in_6 rfl (lv_at hl 2 rfl) ?_
    refine x_icmp_gt (tgt := 14) hx hb d_Mo_in_7 (by decide) (by omega) (by omega) (fun c_7 => ?_) (fun c_7 => ?_)
    · refine lv_iconst (v := iI 0) hx hb d_Mo_in_14 rfl ?_
      exact y_zret hx hb hr (rfl) hlocks hQ (by rw [zP_f (by omega)]) d_Mo_in_15
    · refine lv_iconst (v := iI 1) hx hb d_Mo_in_10 rfl ?_
      refine lv_goto (tgt := 15) hx hb d_Mo_in_11 (by decide) ?_
      exact y_zret hx hb hr (rfl) hlocks hQ (by rw [zP_t (by omega)]) d_Mo_in_15
set_option maxHeartbeats 4000000 in
set_option maxRecDepth 100000 in
theorem c_Mo_abs_n (l : Launch) (D : va_G) (aC : Nat → ClassId) (k q : Int) (hk : -4294967296 < k ∧ k < 4294967296) (hq : -1000 ≤ q ∧ q ≤ 900) (hs : k < 0) : CR l D aC y_Mo_abs (rd 0 0) [.double (dM k q)] [] (fun u => u = some (.double (dM (k.natAbs : Int) q))) := by
  refine CR.of (cc := b_Mo_abs) (maxL := 2) (ret := (some .double)) (by decide +kernel) k_Mo_abs (Nat.le_of_ble_eq_true rfl) ?_
  intro p e s m below meth c Q S hr hlocks hQ hK hN hP ls hl
  obtain ⟨hx, hb, hml, hown, hts⟩ := id S
  have hl : lv_has ls 2 [(0, .double (dM k q))] := hl
  refine lv_dload_n hx hb d_Mo_abs_0 rfl (lv_at hl 0 rfl) ?_
  refine x_dconst0 hx hb d_Mo_abs_1 ?_
  refine x_dcmp_ge (tgt := 12) hx hb d_Mo_abs_2 d_Mo_abs_3 (by decide) (by unfold dOk; omega) (by unfold dOk; omega) (fun c_2 => (absurd (zs_ge.mp c_2) (by omega))) (fun c_2 => ?_)
  refine x_dconst0 hx hb d_Mo_abs_6 ?_
  refine lv_dload_n hx hb d_Mo_abs_7 rfl (lv_at hl 0 rfl) ?_
  refine x_dsub0 hx hb d_Mo_abs_8 (by unfold dOk; omega) ?_
  refine lv_goto (tgt := 13) hx hb d_Mo_abs_9 (by decide) ?_
  exact y_dret hx hb hr hlocks hQ (by rw [show (k.natAbs : Int) = -k by omega]) d_Mo_abs_13
set_option maxHeartbeats 4000000 in
set_option maxRecDepth 100000 in
theorem c_Mo_abs_p (l : Launch) (D : va_G) (aC : Nat → ClassId) (k q : Int) (hk : -4294967296 < k ∧ k < 4294967296) (hq : -1000 ≤ q ∧ q ≤ 900) (hs : 0 ≤ k) : CR l D aC y_Mo_abs (rd 0 0) [.double (dM k q)] [] (fun u => u = some (.double (dM (k.natAbs : Int) q))) := by
  refine CR.of (cc := b_Mo_abs) (maxL := 2) (ret := (some .double)) (by decide +kernel) k_Mo_abs (Nat.le_of_ble_eq_true rfl) ?_
  intro p e s m below meth c Q S hr hlocks hQ hK hN hP ls hl
  obtain ⟨hx, hb, hml, hown, hts⟩ := id S
  have hl : lv_has ls 2 [(0, .double (dM k q))] := hl
  refine lv_dload_n hx hb d_Mo_abs_0 rfl (lv_at hl 0 rfl) ?_
  refine x_dconst0 hx hb d_Mo_abs_1 ?_
  refine x_dcmp_ge (tgt := 12) hx hb d_Mo_abs_2 d_Mo_abs_3 (by decide) (by unfold dOk; omega) (by unfold dOk; omega) (fun c_2 => ?_) (fun c_2 => (absurd (zs_ge.mpr (by omega)) c_2))
  refine lv_dload_n hx hb d_Mo_abs_12 rfl (lv_at hl 0 rfl) ?_
  exact y_dret hx hb hr hlocks hQ (by rw [show (k.natAbs : Int) = k by omega]) d_Mo_abs_13
theorem c_Mo_abs (l : Launch) (D : va_G) (aC : Nat → ClassId) (k q : Int) (hk : -4294967296 < k ∧ k < 4294967296) (hq : -1000 ≤ q ∧ q ≤ 900) : CR l D aC y_Mo_abs (rd 0 0) [.double (dM k q)] [] (fun u => u = some (.double (dM (k.natAbs : Int) q))) := by
  rcases (show k < 0 ∨ 0 ≤ k by omega) with h | h
  · exact c_Mo_abs_n l D aC k q hk hq h
  · exact c_Mo_abs_p l D aC k q hk hq h
set_option maxHeartbeats 4000000 in
set_option maxRecDepth 100000 in
theorem c_Mo_power (l : Launch) (D : va_G) (aC : Nat → ClassId) (x : Int) (hx6 : -600 ≤ x ∧ x ≤ 600) : CR l D aC y_Mo_power (rd 0 0) [.int (iI x)] [] (fun u => u = some (.double (dM 1 x))) := by
  refine CR.of (cc := b_Mo_power) (maxL := 4) (ret := (some .double)) (by decide +kernel) k_Mo_power (Nat.le_of_ble_eq_true rfl) ?_
  intro p e s m below meth c Q S hr hlocks hQ hK hN hP ls hl
  obtain ⟨hx, hb, hml, hown, hts⟩ := id S
  have hl : lv_has ls 4 [(0, .int (iI x))] := hl
  refine x_dconst1 hx hb d_Mo_power_0 ?_
  refine lv_dstore_n (lv' := [(1, .double (dM 1 0)), (0, .int (iI x))]) hx hb d_Mo_power_1 rfl hl (by decide) rfl (fun ls hl => ?_)
  refine lv_iconst (v := iI 0) hx hb d_Mo_power_2 rfl ?_
  refine lv_istore_n (lv' := [(3, .int (iI 0)), (1, .double (dM 1 0)), (0, .int (iI x))]) hx hb d_Mo_power_3 rfl hl (by decide) rfl (fun ls hl => ?_)
  have L4 : ∀ (nn : Nat) (t : Int) (ls : Array Slot), (0 ≤ t ∧ (t ≤ x ∨ t = 0)) → 601 - t < (nn : Int) → lv_has ls 4 [(3, .int (iI t)), (1, .double (dM 1 t)), (0, .int (iI x))] → W p l e (rd 0 0) s m ([.int (iI x)]).toArray below meth c s.heap [] 0 0 Q (F0 m 4 ls []) := by
    intro nn
    induction nn with
    | zero => intro t ls ht hnn; exact absurd hnn (by omega)
    | succ nn ih =>
      intro t ls ht hnn hl
      refine lv_iload_n hx hb d_Mo_power_4 rfl (lv_at hl 0 rfl) ?_
      refine lv_iload_n hx hb d_Mo_power_5 rfl (lv_at hl 2 rfl) ?_
      refine x_icmp_ge (tgt := 21) hx hb d_Mo_power_6 (by decide) (by omega) (by omega) (fun c_6 => ?_) (fun c_6 => ?_)
      · refine lv_iconst (v := iI 0) hx hb d_Mo_power_21 rfl ?_
        refine lv_istore_n (lv' := [(3, .int (iI 0)), (1, .double (dM 1 t)), (0, .int (iI x))]) hx hb d_Mo_power_22 rfl hl (by decide) rfl (fun ls hl => ?_)
        have L23 : ∀ (nn : Nat) (u : Int) (ls : Array Slot), (u ≤ 0 ∧ (x ≤ u ∨ u = 0)) → u + 601 < (nn : Int) → lv_has ls 4 [(3, .int (iI u)), (1, .double (dM 1 (t + u))), (0, .int (iI x))] → W p l e (rd 0 0) s m ([.int (iI x)]).toArray below meth c s.heap [] 0 0 Q (F0 m 23 ls []) := by
          intro nn23
          induction nn23 with
          | zero => intro u ls hu hnn23; exact absurd hnn23 (by omega)
          | succ nn23 ih23 =>
            intro u ls hu hnn23 hl
            refine lv_iload_n hx hb d_Mo_power_23 rfl (lv_at hl 0 rfl) ?_
            refine lv_iload_n hx hb d_Mo_power_24 rfl (lv_at hl 2 rfl) ?_
            refine x_icmp_le (tgt := 40) hx hb d_Mo_power_25 (by decide) (by omega) (by omega) (fun c_25 => ?_) (fun c_25 => ?_)
            · refine lv_dload_n hx hb d_Mo_power_40 rfl (lv_at hl 1 rfl) ?_
              exact y_dret hx hb hr hlocks hQ (by rw [show t + u = x by omega]) d_Mo_power_41
            · refine lv_dload_n hx hb d_Mo_power_28 rfl (lv_at hl 1 rfl) ?_
              refine x_ldc2d hx hb 1 (-1) (by decide +kernel) hown (hts _ wk_Mo_94) d_Mo_power_29 ?_
              refine x_dmul1 hx hb d_Mo_power_32 (by unfold dOk; omega) (by unfold dOk; omega) (by unfold dOk; omega) ?_
              refine lv_dstore_n (lv' := [(1, .double (dM 1 ((t + u) + (-1)))), (3, .int (iI u)), (0, .int (iI x))]) hx hb d_Mo_power_33 rfl hl (by decide) rfl (fun ls hl => ?_)
              refine lv_iinc (v := iI (u + (-1))) (lv' := [(3, .int (iI (u + (-1)))), (1, .double (dM 1 ((t + u) + (-1)))), (0, .int (iI x))]) hx hb d_Mo_power_34 hl (k := 1) rfl (iI_add _ _) (by decide) rfl (fun ls hl => ?_)
              refine lv_goto (tgt := 23) hx hb d_Mo_power_37 (by decide) ?_
              exact ih23 (u + (-1)) ls (by omega) (by omega) (by rw [show (t + (u + (-1)) : Int) = (t + u) + (-1) by omega]; exact lv_sub hl [0, 1, 2] rfl)
        exact L23 _ 0 ls (by omega) (n_lt _) (by rw [show (t + 0 : Int) = t by omega]; exact lv_sub hl [0, 1, 2] rfl)
      · refine lv_dload_n hx hb d_Mo_power_9 rfl (lv_at hl 1 rfl) ?_
        refine x_ldc2d hx hb 1 1 (by decide +kernel) hown (hts _ wk_Mo_98) d_Mo_power_10 ?_
        refine x_dmul1 hx hb d_Mo_power_13 (by unfold dOk; omega) (by unfold dOk; omega) (by unfold dOk; omega) ?_
        refine lv_dstore_n (lv' := [(1, .double (dM 1 (t + 1))), (3, .int (iI t)), (0, .int (iI x))]) hx hb d_Mo_power_14 rfl hl (by decide) rfl (fun ls hl => ?_)
        refine lv_iinc (v := iI (t + 1)) (lv' := [(3, .int (iI (t + 1))), (1, .double (dM 1 (t + 1))), (0, .int (iI x))]) hx hb d_Mo_power_15 hl (k := 1) rfl (iI_add _ _) (by decide) rfl (fun ls hl => ?_)
        refine lv_goto (tgt := 4) hx hb d_Mo_power_18 (by decide) ?_
        exact ih (t + 1) ls (by omega) (by omega) (lv_sub hl [0, 1, 2] rfl)
  exact L4 _ 0 ls (by omega) (n_lt _) (lv_sub hl [0, 1, 2] rfl)
set_option maxHeartbeats 4000000 in
set_option maxRecDepth 100000 in
theorem c_Mo_given (l : Launch) (D : va_G) (aC : Nat → ClassId) (k q : Int) (hk : -4294967296 < k ∧ k < 4294967296) (hq : -1000 ≤ q ∧ q ≤ 900) : CR l D aC y_Mo_given (rd 0 0) [.double (dM k q)] [] (fun u => u = some (.double (dM k q))) := by
  refine CR.of (cc := b_Mo_given) (maxL := 2) (ret := (some .double)) (by decide +kernel) k_Mo_given (Nat.le_of_ble_eq_true rfl) ?_
  intro p e s m below meth c Q S hr hlocks hQ hK hN hP ls hl
  obtain ⟨hx, hb, hml, hown, hts⟩ := id S
  have hl : lv_has ls 2 [(0, .double (dM k q))] := hl
  refine lv_dload_n hx hb d_Mo_given_0 rfl (lv_at hl 0 rfl) ?_
  refine x_dconst0 hx hb d_Mo_given_1 ?_
  refine x_dcmp_ne (tgt := 10) hx hb d_Mo_given_2 d_Mo_given_3 (by decide) (by unfold dOk; omega) (by unfold dOk; omega) (fun c_2 => ?_) (fun c_2 => ?_)
  · refine lv_dload_n hx hb d_Mo_given_10 rfl (lv_at hl 0 rfl) ?_
    exact y_dret hx hb hr hlocks hQ (rfl) d_Mo_given_11
  · refine x_dconst0 hx hb d_Mo_given_6 ?_
    refine lv_goto (tgt := 11) hx hb d_Mo_given_7 (by decide) ?_
    exact y_dret hx hb hr hlocks hQ (by rw [show k = 0 from zs_eq.mp c_2, dM_zero 0 q]) d_Mo_given_11
set_option maxHeartbeats 4000000 in
set_option maxRecDepth 100000 in
theorem c_Mo_isNumber (l : Launch) (D : va_G) (aC : Nat → ClassId) (k q : Int) (hk : -4294967296 < k ∧ k < 4294967296) (hq : -3 ≤ q ∧ q ≤ 0) : CR l D aC y_Mo_isNumber (rd 1 23) [.double (dM k q)] [] (fun u => u = some (.int (iI 1))) := by
  refine CR.of (cc := b_Mo_isNumber) (maxL := 2) (ret := (some .boolean)) (by decide +kernel) k_Mo_isNumber (Nat.le_of_ble_eq_true rfl) ?_
  intro p e s m below meth c Q S hr hlocks hQ hK hN hP ls hl
  obtain ⟨hx, hb, hml, hown, hts⟩ := id S
  have hl : lv_has ls 2 [(0, .double (dM k q))] := hl
  refine lv_dload_n hx hb d_Mo_isNumber_0 rfl (lv_at hl 0 rfl) ?_
  refine x_dconst0 hx hb d_Mo_isNumber_1 ?_
  refine x_dcmp_eq (tgt := 32) hx hb d_Mo_isNumber_2 d_Mo_isNumber_3 (by decide) (by unfold dOk; omega) (by unfold dOk; omega) (fun c_2 => ?_) (fun c_2 => ?_)
  · refine lv_iconst (v := iI 1) hx hb d_Mo_isNumber_32 rfl ?_
    refine lv_goto (tgt := 37) hx hb d_Mo_isNumber_33 (by decide) ?_
    exact y_zret hx hb hr (rfl) hlocks hQ (rfl) d_Mo_isNumber_37
  · refine lv_dload_n hx hb d_Mo_isNumber_6 rfl (lv_at hl 0 rfl) ?_
    refine y_callS1 (V := .double (dM (k.natAbs : Int) q)) S (c_Mo_abs l D aC k q (by omega) (by omega)) t_Mo_100 (rm_ok (by decide) (by decide)) hK hN hP [] rfl rfl hl.1 rfl (Nat.le_of_ble_eq_true rfl) d_Mo_isNumber_7 ⟨Nat.zero_le _, Nat.zero_le _⟩ ?_
    refine lv_bipush (v := iI (-60)) hx hb d_Mo_isNumber_10 (by decide +kernel) ?_
    refine y_callS1 (V := .double (dM 1 (-60))) S (c_Mo_power l D aC (-60) (by omega)) t_Mo_104 (rm_ok (by decide) (by decide)) hK hN hP [] rfl rfl hl.1 rfl (Nat.le_of_ble_eq_true rfl) d_Mo_isNumber_12 ⟨Nat.zero_le _, Nat.zero_le _⟩ ?_
    refine x_dcmp_lt (tgt := 36) hx hb d_Mo_isNumber_15 d_Mo_isNumber_16 (by decide) (by unfold dOk; omega) (by unfold dOk; omega) (fun c_15 => ((num_lo (k := (k.natAbs : Int)) (by have h0 : k ≠ 0 := fun z => c_2 (zs_eq.mpr z); omega) hq c_15).elim)) (fun c_15 => ?_)
    refine lv_dload_n hx hb d_Mo_isNumber_19 rfl (lv_at hl 0 rfl) ?_
    refine y_callS1 (V := .double (dM (k.natAbs : Int) q)) S (c_Mo_abs l D aC k q (by omega) (by omega)) t_Mo_100 (rm_ok (by decide) (by decide)) hK hN hP [] rfl rfl hl.1 rfl (Nat.le_of_ble_eq_true rfl) d_Mo_isNumber_20 ⟨Nat.zero_le _, Nat.zero_le _⟩ ?_
    refine lv_bipush (v := iI 60) hx hb d_Mo_isNumber_23 (by decide +kernel) ?_
    refine y_callS1 (V := .double (dM 1 60)) S (c_Mo_power l D aC 60 (by omega)) t_Mo_104 (rm_ok (by decide) (by decide)) hK hN hP [] rfl rfl hl.1 rfl (Nat.le_of_ble_eq_true rfl) d_Mo_isNumber_25 ⟨Nat.zero_le _, Nat.zero_le _⟩ ?_
    refine x_dcmp_gt (tgt := 36) hx hb d_Mo_isNumber_28 d_Mo_isNumber_29 (by decide) (by unfold dOk; omega) (by unfold dOk; omega) (fun c_28 => ((al_hi (k := (k.natAbs : Int)) (by omega) hq (by omega)).elim)) (fun c_28 => ?_)
    refine lv_iconst (v := iI 1) hx hb d_Mo_isNumber_32 rfl ?_
    refine lv_goto (tgt := 37) hx hb d_Mo_isNumber_33 (by decide) ?_
    exact y_zret hx hb hr (rfl) hlocks hQ (rfl) d_Mo_isNumber_37
set_option maxHeartbeats 4000000 in
set_option maxRecDepth 100000 in
theorem c_Mo_trim (l : Launch) (D : va_G) (aC : Nat → ClassId) (a n : Nat) (f : Int → Int) (k : Int) (hn : n < 2147483648) (hk : 0 ≤ k ∧ k ≤ (n : Int)) (hf : ∀ j : Int, 0 ≤ j → j < k → 0 ≤ f j ∧ f j < 65536) : CR l D aC y_Mo_trim (rd 0 0) [.ref a, .int (iI k)] [(a, eI aC n f)] (fun u => u = some (.int (iI (trm f k.toNat : Int)))) := by
  refine CR.of (cc := b_Mo_trim) (maxL := 3) (ret := (some .int)) (by decide +kernel) k_Mo_trim (Nat.le_of_ble_eq_true rfl) ?_
  intro p e s m below meth c Q S hr hlocks hQ hK hN hP ls hl
  obtain ⟨hx, hb, hml, hown, hts⟩ := id S
  have hl : lv_has ls 3 [(0, .ref a), (1, .int (iI k))] := hl
  refine lv_iload_n hx hb d_Mo_trim_0 rfl (lv_at hl 1 rfl) ?_
  refine lv_istore_n (lv' := [(2, .int (iI k)), (0, .ref a), (1, .int (iI k))]) hx hb d_Mo_trim_1 rfl hl (by decide) rfl (fun ls hl => ?_)
  have L2 : ∀ (nn : Nat) (t : Int) (ls : Array Slot), (0 ≤ t ∧ t ≤ k) → (trm f t.toNat = trm f k.toNat) → t < (nn : Int) → lv_has ls 3 [(2, .int (iI t)), (0, .ref a)] → W p l e (rd 0 0) s m ([.ref a, .int (iI k)]).toArray below meth c s.heap [] 0 0 Q (F0 m 2 ls []) := by
    intro nn
    induction nn with
    | zero => intro t ls ht htr hnn; exact absurd hnn (by omega)
    | succ nn ih =>
      intro t ls ht htr hnn hl
      refine lv_iload_n hx hb d_Mo_trim_2 rfl (lv_at hl 0 rfl) ?_
      refine x_if_le (tgt := 20) hx hb d_Mo_trim_3 (by decide) (by omega) (fun c_3 => ?_) (fun c_3 => ?_)
      · refine lv_iload_n hx hb d_Mo_trim_20 rfl (lv_at hl 0 rfl) ?_
        exact y_iret hx hb hr hlocks hQ (by rw [← htr, show t.toNat = 0 by omega, show t = 0 by omega]; rfl) d_Mo_trim_21
      · refine lv_aload_n hx hb d_Mo_trim_6 rfl (lv_at hl 1 rfl) ?_
        refine lv_iload_n hx hb d_Mo_trim_7 rfl (lv_at hl 0 rfl) ?_
        refine lv_iconst (v := iI 1) hx hb d_Mo_trim_8 rfl ?_
        refine x_isub hx hb d_Mo_trim_9 ?_
        refine x_iald hx hb hK hP 0 rfl (by omega) (hn) d_Mo_trim_10 ?_
        refine x_if_ne (tgt := 20) hx hb d_Mo_trim_11 (by decide) (by have := hf (t - 1) (by omega) (by omega); omega) (fun c_11 => ?_) (fun c_11 => ?_)
        · refine lv_iload_n hx hb d_Mo_trim_20 rfl (lv_at hl 0 rfl) ?_
          exact y_iret hx hb hr hlocks hQ (by rw [← htr, trm_e (by omega) c_11, show ((t.toNat : Nat) : Int) = t by omega]) d_Mo_trim_21
        · refine lv_iinc (v := iI (t + (-1))) (lv' := [(2, .int (iI (t + (-1)))), (0, .ref a)]) hx hb d_Mo_trim_14 hl (k := 0) rfl (iI_add _ _) (by decide) rfl (fun ls hl => ?_)
          refine lv_goto (tgt := 2) hx hb d_Mo_trim_17 (by decide) ?_
          exact ih (t + (-1)) ls (by omega) (by rw [← htr]; exact (trm_s (by omega) c_11).symm) (by omega) (lv_sub hl [0, 1] rfl)
  exact L2 _ k ls (by omega) (rfl) (n_lt _) (lv_sub hl [0, 1] rfl)
set_option maxHeartbeats 4000000 in
set_option maxRecDepth 100000 in
theorem c_Mo_bits (l : Launch) (D : va_G) (aC : Nat → ClassId) (a n : Nat) (f : Int → Int) (k : Int) (hn : n < 2147483648) (hk : 0 ≤ k ∧ k ≤ (n : Int)) (hf : 0 ≤ f (k - 1) ∧ f (k - 1) < 65536) : CR l D aC y_Mo_bits (rd 0 0) [.ref a, .int (iI k)] [(a, eI aC n f)] (fun u => u = some (.int (iI (if k = 0 then 0 else 16 * (k - 1) + tp (f (k - 1)) + 1)))) := by
  refine CR.of (cc := b_Mo_bits) (maxL := 4) (ret := (some .int)) (by decide +kernel) k_Mo_bits (Nat.le_of_ble_eq_true rfl) ?_
  intro p e s m below meth c Q S hr hlocks hQ hK hN hP ls hl
  obtain ⟨hx, hb, hml, hown, hts⟩ := id S
  have hl : lv_has ls 4 [(0, .ref a), (1, .int (iI k))] := hl
  refine lv_iload_n hx hb d_Mo_bits_0 rfl (lv_at hl 1 rfl) ?_
  refine x_if_ne (tgt := 6) hx hb d_Mo_bits_1 (by decide) (by omega) (fun c_1 => ?_) (fun c_1 => ?_)
  · refine lv_bipush (v := iI 16) hx hb d_Mo_bits_6 (by decide +kernel) ?_
    refine lv_iload_n hx hb d_Mo_bits_8 rfl (lv_at hl 1 rfl) ?_
    refine lv_iconst (v := iI 1) hx hb d_Mo_bits_9 rfl ?_
    refine x_isub hx hb d_Mo_bits_10 ?_
    refine x_imul hx hb d_Mo_bits_11 ?_
    refine lv_istore_n (lv' := [(2, .int (iI (16 * (k - 1)))), (0, .ref a), (1, .int (iI k))]) hx hb d_Mo_bits_12 rfl hl (by decide) rfl (fun ls hl => ?_)
    refine lv_aload_n hx hb d_Mo_bits_13 rfl (lv_at hl 1 rfl) ?_
    refine lv_iload_n hx hb d_Mo_bits_14 rfl (lv_at hl 2 rfl) ?_
    refine lv_iconst (v := iI 1) hx hb d_Mo_bits_15 rfl ?_
    refine x_isub hx hb d_Mo_bits_16 ?_
    refine x_iald hx hb hK hP 0 rfl (by omega) (hn) d_Mo_bits_17 ?_
    refine lv_istore_n (lv' := [(3, .int (iI (f (k - 1)))), (2, .int (iI (16 * (k - 1)))), (0, .ref a), (1, .int (iI k))]) hx hb d_Mo_bits_18 rfl hl (by decide) rfl (fun ls hl => ?_)
    have L19 : ∀ (nn : Nat) (y : Int) (b : Int) (ls : Array Slot), (0 ≤ y ∧ y < 65536) → (b + tp y = 16 * (k - 1) + tp (f (k - 1))) → y < (nn : Int) → lv_has ls 4 [(3, .int (iI y)), (2, .int (iI b))] → W p l e (rd 0 0) s m ([.ref a, .int (iI k)]).toArray below meth c s.heap [] 0 0 Q (F0 m 19 ls []) := by
      intro nn
      induction nn with
      | zero => intro y b ls hy hb2 hnn; exact absurd hnn (by omega)
      | succ nn ih =>
        intro y b ls hy hb2 hnn hl
        refine lv_iload_n hx hb d_Mo_bits_19 rfl (lv_at hl 0 rfl) ?_
        refine x_if_eq (tgt := 33) hx hb d_Mo_bits_20 (by decide) (by omega) (fun c_20 => ?_) (fun c_20 => ?_)
        · refine lv_iload_n hx hb d_Mo_bits_33 rfl (lv_at hl 1 rfl) ?_
          exact y_iret hx hb hr hlocks hQ (by rw [if_neg (by omega), show b = 16 * (k - 1) + tp (f (k - 1)) + 1 by rw [show y = 0 by omega] at hb2; have : tp 0 = -1 := rfl; omega]) d_Mo_bits_34
        · refine lv_iinc (v := iI (b + 1)) (lv' := [(2, .int (iI (b + 1))), (3, .int (iI y))]) hx hb d_Mo_bits_23 hl (k := 1) rfl (iI_add _ _) (by decide) rfl (fun ls hl => ?_)
          refine lv_iload_n hx hb d_Mo_bits_26 rfl (lv_at hl 1 rfl) ?_
          refine lv_iconst (v := iI 1) hx hb d_Mo_bits_27 rfl ?_
          refine x_iushr hx hb d_Mo_bits_28 (by omega) (by omega) ?_
          refine x_top _ (y / 2) rfl ?_
          refine lv_istore_n (lv' := [(3, .int (iI (y / 2))), (2, .int (iI (b + 1)))]) hx hb d_Mo_bits_29 rfl hl (by decide) rfl (fun ls hl => ?_)
          refine lv_goto (tgt := 19) hx hb d_Mo_bits_30 (by decide) ?_
          exact ih (y / 2) (b + 1) ls (by omega) (by rw [tp_half (by omega)]; omega) (by omega) (lv_sub hl [0, 1] rfl)
    exact L19 _ (f (k - 1)) (16 * (k - 1)) ls (hf) (rfl) (n_lt _) (lv_sub hl [0, 1] rfl)
  · refine lv_iconst (v := iI 0) hx hb d_Mo_bits_4 rfl ?_
    exact y_iret hx hb hr hlocks hQ (by rw [if_pos (by omega)]) d_Mo_bits_5
