/-- a place written if z is not 0 -/
def cu (z : Int) (f : Int → Int) (i v : Int) : Int → Int := if z = 0 then f else updI f i v
theorem cu_0 {z : Int} {f : Int → Int} {i v : Int} (h : z = 0) : cu z f i v = f := if_pos h
theorem cu_1 {z : Int} {f : Int → Int} {i v : Int} (h : ¬ z = 0) : cu z f i v = updI f i v := if_neg h
/-- does one of the first n places hold i and j -/
def inC (f1 f2 : Int → Int) (i j : Int) : Nat → Bool
  | 0 => false
  | n + 1 => inC f1 f2 i j n || (decide (f1 (n : Int) = i) && decide (f2 (n : Int) = j))
theorem inC_s {f1 f2 : Int → Int} {i j t : Int} (ht : 0 ≤ t) : inC f1 f2 i j (t + 1).toNat = (inC f1 f2 i j t.toNat || (decide (f1 t = i) && decide (f2 t = j))) := by
  rw [show (t + 1).toNat = t.toNat + 1 by omega]
  show (inC f1 f2 i j t.toNat || (decide (f1 (t.toNat : Int) = i) && decide (f2 (t.toNat : Int) = j))) = _
  rw [show ((t.toNat : Nat) : Int) = t by omega]
theorem inC_of {f1 f2 : Int → Int} {i j : Int} : ∀ (n : Nat) {t : Int}, 0 ≤ t → t < (n : Int) → f1 t = i → f2 t = j → inC f1 f2 i j n = true
  | 0, t, h1, h2, _, _ => by omega
  | n + 1, t, h1, h2, e1, e2 => by
    show (inC f1 f2 i j n || (decide (f1 (n : Int) = i) && decide (f2 (n : Int) = j))) = true
    by_cases h : t = (n : Int)
    · rw [← h, decide_eq_true e1, decide_eq_true e2]; simp
    · rw [inC_of n h1 (by omega) e1 e2]; simp
theorem inC_no {f1 f2 : Int → Int} {i j t : Int} (ht : 0 ≤ t) (h : inC f1 f2 i j t.toNat = false) (hn : ¬ (f1 t = i ∧ f2 t = j)) : inC f1 f2 i j (t + 1).toNat = false := by
  rw [inC_s ht, h]
  by_cases h1 : f1 t = i
  · rw [decide_eq_true h1, decide_eq_false (fun q => hn ⟨h1, q⟩)]; rfl
  · rw [decide_eq_false h1]; rfl

set_option maxHeartbeats 4000000 in
set_option maxRecDepth 100000 in
theorem c_Nu_signum (l : Launch) (D : va_G) (aC : Nat → ClassId) (a am ae n : Nat) (fm fe : Int → Int) (i : Int) (hi : 0 ≤ i ∧ i < (n : Int)) (hn : n < 2147483648) (hm : -9007199254740992 < fm i ∧ fm i < 9007199254740992) : CR l D aC y_Nu_signum (rd 1 23) [.ref a, .int (iI i)] [(a, .inr (0, [.ref am, .ref ae])), (am, eJ aC n fm), (ae, eI aC n fe)] (fun v => v = some (.int (iI (lcI (fm i) 0)))) := by
  refine CR.of (cc := b_Nu_signum) (maxL := 2) (ret := (some .int)) (by decide +kernel) k_Nu_signum (Nat.le_of_ble_eq_true rfl) ?_
  intro p e s m below meth c Q S hr hlocks hQ hK hN hP ls hl
  obtain ⟨hx, hb, hml, hown, hts⟩ := id S
  have hl : lv_has ls 2 [(0, .ref a), (1, .int (iI i))] := hl
  refine lv_aload_n hx hb d_Nu_signum_0 rfl (lv_at hl 0 rfl) ?_
  refine lv_iload_n hx hb d_Nu_signum_1 rfl (lv_at hl 1 rfl) ?_
  refine y_callV1 (V := .long (lI (fm i))) S (c_Nu_mantissa l D aC a am ae n fm fe i (hi) (hn)) t_Nu_31 (rm_ok (by decide) (by decide)) hK hN hP [0, 1, 2] rfl 0 0 rfl rfl rfl hl.1 rfl (Nat.le_of_ble_eq_true rfl) d_Nu_signum_2 ⟨Nat.zero_le _, Nat.zero_le _⟩ ?_
  refine lv_lconst (v := lI 0) hx hb d_Nu_signum_5 (by decide +kernel) ?_
  refine y_callS1 (V := .int (iI (lcI (fm i) 0))) S (c_cmpJ l D aC (fm i) 0 (by omega) (by omega)) t_Nu_35 (rm_ok (by decide) (by decide)) hK hN hP [] rfl rfl hl.1 rfl (Nat.le_of_ble_eq_true rfl) d_Nu_signum_6 ⟨Nat.zero_le _, Nat.zero_le _⟩ ?_
  exact y_iret hx hb hr hlocks hQ (rfl) d_Nu_signum_9
set_option maxHeartbeats 4000000 in
set_option maxRecDepth 100000 in
theorem c_Ex_rounded (l : Launch) (D : va_G) (aC : Nat → ClassId) (a ad : Nat) (f : Int → Int) (mt ee : Int) (hm : -9007199254740992 ≤ mt ∧ mt ≤ 9007199254740992) (he : -1074 ≤ ee ∧ ee ≤ 100000) (h971 : ee = 971 → -9007199254740992 < mt ∧ mt < 9007199254740992) : CR l D aC y_Ex_rounded (rd 2 48) [.ref a] [(a, .inr (4, [.ref ad, .long (lI mt), .int (iI ee)])), (ad, eJ aC 112 f)] (fun v => v = some (.double (if 971 < ee then dM (-9007199254740991) 971 else dM mt ee))) := by
  refine CR.of (cc := b_Ex_rounded) (maxL := 1) (ret := (some .double)) (by decide +kernel) k_Ex_rounded (Nat.le_of_ble_eq_true rfl) ?_
  intro p e s m below meth c Q S hr hlocks hQ hK hN hP ls hl
  obtain ⟨hx, hb, hml, hown, hts⟩ := id S
  have hl : lv_has ls 1 [(0, .ref a)] := hl
  refine lv_aload_n hx hb d_Ex_rounded_0 rfl (lv_at hl 0 rfl) ?_
  refine va_get (D := D) (ci := 4) (v := .int (iI ee)) (C := R_Ex) (T := F_Ex) (N := 3) hx hb hts i_Ex hown hK hP 0 rfl rfl 2 (by decide) (hts _ wf_Ex_83) (fun _ h9 => h9) rfl d_Ex_rounded_1 ?_
  refine lv_sipush (v := iI 971) hx hb d_Ex_rounded_4 (by decide +kernel) ?_
  refine x_icmp_le (tgt := 20) hx hb d_Ex_rounded_7 (by decide) (by omega) (by omega) (fun c_7 => ?_) (fun c_7 => ?_)
  · refine lv_aload_n hx hb d_Ex_rounded_20 rfl (lv_at hl 0 rfl) ?_
    refine va_get (D := D) (ci := 4) (v := .long (lI mt)) (C := R_Ex) (T := F_Ex) (N := 3) hx hb hts i_Ex hown hK hP 0 rfl rfl 1 (by decide) (hts _ wf_Ex_79) (fun _ h9 => h9) rfl d_Ex_rounded_21 ?_
    refine lv_aload_n hx hb d_Ex_rounded_24 rfl (lv_at hl 0 rfl) ?_
    refine va_get (D := D) (ci := 4) (v := .int (iI ee)) (C := R_Ex) (T := F_Ex) (N := 3) hx hb hts i_Ex hown hK hP 0 rfl rfl 2 (by decide) (hts _ wf_Ex_83) (fun _ h9 => h9) rfl d_Ex_rounded_25 ?_
    refine y_callS1 (V := .double (dM mt ee)) S (c_Ex_scaled l D aC mt ee (by omega) (by omega) (by omega)) t_Ex_88 (rm_ok (by decide) (by decide)) hK hN hP [] rfl rfl hl.1 rfl (Nat.le_of_ble_eq_true rfl) d_Ex_rounded_28 ⟨Nat.zero_le _, Nat.zero_le _⟩ ?_
    exact y_dret hx hb hr hlocks hQ (by rw [if_neg (by omega)]) d_Ex_rounded_31
  · refine x_ldc2 hx hb (-9007199254740991) (by decide +kernel) hown (hts _ wk_Ex_86) d_Ex_rounded_10 ?_
    refine lv_sipush (v := iI 971) hx hb d_Ex_rounded_13 (by decide +kernel) ?_
    refine y_callS1 (V := .double (dM (-9007199254740991) 971)) S (c_Ex_scaled l D aC (-9007199254740991) 971 (by omega) (by omega) (by omega)) t_Ex_88 (rm_ok (by decide) (by decide)) hK hN hP [] rfl rfl hl.1 rfl (Nat.le_of_ble_eq_true rfl) d_Ex_rounded_16 ⟨Nat.zero_le _, Nat.zero_le _⟩ ?_
    exact y_dret hx hb hr hlocks hQ (by rw [if_pos (by omega)]) d_Ex_rounded_19
set_option maxHeartbeats 4000000 in
set_option maxRecDepth 100000 in
theorem c_Li_allows (l : Launch) (D : va_G) (aC : Nat → ClassId) (has : Int) (k q k' q' : Int) (hk : -4294967296 < k ∧ k < 4294967296) (hq : -3 ≤ q ∧ q ≤ 0) (hk' : -4294967296 < k' ∧ k' < 4294967296) (hq' : -3 ≤ q' ∧ q' ≤ 0) (hh : -2147483648 ≤ has ∧ has < 2147483648) : CR l D aC y_Li_allows (rd 1 25) [.int (iI has), .double (dM k q), .double (dM k' q')] [] (fun v => v = some (.int (iI (zP (0 ≤ has ∧ has ≤ 3))))) := by
  refine CR.of (cc := b_Li_allows) (maxL := 5) (ret := (some .boolean)) (by decide +kernel) k_Li_allows (Nat.le_of_ble_eq_true rfl) ?_
  intro p e s m below meth c Q S hr hlocks hQ hK hN hP ls hl
  obtain ⟨hx, hb, hml, hown, hts⟩ := id S
  have hl : lv_has ls 5 [(0, .int (iI has)), (1, .double (dM k q)), (3, .double (dM k' q'))] := hl
  refine lv_iload_n hx hb d_Li_allows_0 rfl (lv_at hl 0 rfl) ?_
  refine x_if_lt (tgt := 9) hx hb d_Li_allows_1 (by decide) (by omega) (fun c_1 => ?_) (fun c_1 => ?_)
  · refine lv_iconst (v := iI 0) hx hb d_Li_allows_9 rfl ?_
    exact y_zret hx hb hr (rfl) hlocks hQ (by rw [zP_f (by omega)]) d_Li_allows_10
  · refine lv_iload_n hx hb d_Li_allows_4 rfl (lv_at hl 0 rfl) ?_
    refine lv_iconst (v := iI 3) hx hb d_Li_allows_5 rfl ?_
    refine x_icmp_le (tgt := 11) hx hb d_Li_allows_6 (by decide) (by omega) (by omega) (fun c_6 => ?_) (fun c_6 => ?_)
    · refine lv_iload_n hx hb d_Li_allows_11 rfl (lv_at hl 0 rfl) ?_
      refine lv_iconst (v := iI 1) hx hb d_Li_allows_12 rfl ?_
      refine x_iand (v := (has % 2)) hx hb d_Li_allows_13 (iI_m1 _) ?_
      refine x_if_eq (tgt := 24) hx hb d_Li_allows_14 (by decide) (by omega) (fun c_14 => ?_) (fun c_14 => ?_)
      · refine lv_iload_n hx hb d_Li_allows_24 rfl (lv_at hl 0 rfl) ?_
        refine lv_iconst (v := iI 2) hx hb d_Li_allows_25 rfl ?_
        refine x_iand (v := (has / 2 % 2 * 2)) hx hb d_Li_allows_26 (iI_bit _ 1 (by decide)) ?_
        refine x_if_eq (tgt := 37) hx hb d_Li_allows_27 (by decide) (by omega) (fun c_27 => ?_) (fun c_27 => ?_)
        · refine lv_iconst (v := iI 1) hx hb d_Li_allows_37 rfl ?_
          refine lv_goto (tgt := 42) hx hb d_Li_allows_38 (by decide) ?_
          exact y_zret hx hb hr (rfl) hlocks hQ (by rw [zP_t (by omega)]) d_Li_allows_42
        · refine lv_dload_n hx hb d_Li_allows_30 rfl (lv_at hl 2 rfl) ?_
          refine y_callS1 (V := .int (iI 1)) S (c_Nu_allows l D aC k' q' (by omega) (by omega)) t_Li_34 (rm_ok (by decide) (by decide)) hK hN hP [] rfl rfl hl.1 rfl (Nat.le_of_ble_eq_true rfl) d_Li_allows_31 ⟨Nat.zero_le _, Nat.zero_le _⟩ ?_
          refine x_if_eq (tgt := 41) hx hb d_Li_allows_34 (by decide) (by decide) (fun c_34 => (by exfalso; omega)) (fun c_34 => ?_)
          refine lv_iconst (v := iI 1) hx hb d_Li_allows_37 rfl ?_
          refine lv_goto (tgt := 42) hx hb d_Li_allows_38 (by decide) ?_
          exact y_zret hx hb hr (rfl) hlocks hQ (by rw [zP_t (by omega)]) d_Li_allows_42
      · refine lv_dload_n hx hb d_Li_allows_17 rfl (lv_at hl 1 rfl) ?_
        refine y_callS1 (V := .int (iI 1)) S (c_Nu_allows l D aC k q (by omega) (by omega)) t_Li_34 (rm_ok (by decide) (by decide)) hK hN hP [] rfl rfl hl.1 rfl (Nat.le_of_ble_eq_true rfl) d_Li_allows_18 ⟨Nat.zero_le _, Nat.zero_le _⟩ ?_
        refine x_if_eq (tgt := 41) hx hb d_Li_allows_21 (by decide) (by decide) (fun c_21 => (by exfalso; omega)) (fun c_21 => ?_)
        refine lv_iload_n hx hb d_Li_allows_24 rfl (lv_at hl 0 rfl) ?_
        refine lv_iconst (v := iI 2) hx hb d_Li_allows_25 rfl ?_
        refine x_iand (v := (has / 2 % 2 * 2)) hx hb d_Li_allows_26 (iI_bit _ 1 (by decide)) ?_
        refine x_if_eq (tgt := 37) hx hb d_Li_allows_27 (by decide) (by omega) (fun c_27 => ?_) (fun c_27 => ?_)
        · refine lv_iconst (v := iI 1) hx hb d_Li_allows_37 rfl ?_
          refine lv_goto (tgt := 42) hx hb d_Li_allows_38 (by decide) ?_
          exact y_zret hx hb hr (rfl) hlocks hQ (by rw [zP_t (by omega)]) d_Li_allows_42
        · refine lv_dload_n hx hb d_Li_allows_30 rfl (lv_at hl 2 rfl) ?_
          refine y_callS1 (V := .int (iI 1)) S (c_Nu_allows l D aC k' q' (by omega) (by omega)) t_Li_34 (rm_ok (by decide) (by decide)) hK hN hP [] rfl rfl hl.1 rfl (Nat.le_of_ble_eq_true rfl) d_Li_allows_31 ⟨Nat.zero_le _, Nat.zero_le _⟩ ?_
          refine x_if_eq (tgt := 41) hx hb d_Li_allows_34 (by decide) (by decide) (fun c_34 => (by exfalso; omega)) (fun c_34 => ?_)
          refine lv_iconst (v := iI 1) hx hb d_Li_allows_37 rfl ?_
          refine lv_goto (tgt := 42) hx hb d_Li_allows_38 (by decide) ?_
          exact y_zret hx hb hr (rfl) hlocks hQ (by rw [zP_t (by omega)]) d_Li_allows_42
    · refine lv_iconst (v := iI 0) hx hb d_Li_allows_9 rfl ?_
      exact y_zret hx hb hr (rfl) hlocks hQ (by rw [zP_f (by omega)]) d_Li_allows_10
set_option maxHeartbeats 4000000 in
set_option maxRecDepth 100000 in
theorem c_Li_isFull (l : Launch) (D : va_G) (aC : Nat → ClassId) (a al lo hi va n : Nat) (fl : Int → Int) (ct : Int) (hn : n < 2147483648) (hc : 0 ≤ ct ∧ ct ≤ (n : Int)) : CR l D aC y_Li_isFull (rd 0 0) [.ref a] [(a, .inr (1, [.ref al, .ref lo, .ref hi, .ref va, .int (iI ct)])), (al, eI aC n fl)] (fun v => v = some (.int (iI (zP ((n : Int) ≤ ct))))) := by
  refine CR.of (cc := b_Li_isFull) (maxL := 1) (ret := (some .boolean)) (by decide +kernel) k_Li_isFull (Nat.le_of_ble_eq_true rfl) ?_
  intro p e s m below meth c Q S hr hlocks hQ hK hN hP ls hl
  obtain ⟨hx, hb, hml, hown, hts⟩ := id S
  have hl : lv_has ls 1 [(0, .ref a)] := hl
  refine lv_aload_n hx hb d_Li_isFull_0 rfl (lv_at hl 0 rfl) ?_
  refine va_get (D := D) (ci := 1) (v := .int (iI ct)) (C := R_Li) (T := F_Li) (N := 5) hx hb hts i_Li hown hK hP 0 rfl rfl 4 (by decide) (hts _ wf_Li_38) (fun _ h9 => h9) rfl d_Li_isFull_1 ?_
  refine lv_aload_n hx hb d_Li_isFull_4 rfl (lv_at hl 0 rfl) ?_
  refine va_get (D := D) (ci := 1) (v := .ref al) (C := R_Li) (T := F_Li) (N := 5) hx hb hts i_Li hown hK hP 0 rfl rfl 0 (by decide) (hts _ wf_Li_13) (fun _ h9 => h9) rfl d_Li_isFull_5 ?_
  refine x_alen hx hb hK hP 1 0 rfl rfl (n := n) rfl d_Li_isFull_8 ?_
  refine x_icmp_lt (tgt := 16) hx hb d_Li_isFull_9 (by decide) (by omega) (by omega) (fun c_9 => ?_) (fun c_9 => ?_)
  · refine lv_iconst (v := iI 0) hx hb d_Li_isFull_16 rfl ?_
    exact y_zret hx hb hr (rfl) hlocks hQ (by rw [zP_f (by omega)]) d_Li_isFull_17
  · refine lv_iconst (v := iI 1) hx hb d_Li_isFull_12 rfl ?_
    refine lv_goto (tgt := 17) hx hb d_Li_isFull_13 (by decide) ?_
    exact y_zret hx hb hr (rfl) hlocks hQ (by rw [zP_t (by omega)]) d_Li_isFull_17
set_option maxHeartbeats 4000000 in
set_option maxRecDepth 100000 in
theorem c_Li_holds (l : Launch) (D : va_G) (aC : Nat → ClassId) (a al lo hi va n : Nat) (fl : Int → Int) (ct : Int) (hn : n < 2147483648) (hc : 0 ≤ ct ∧ ct ≤ (n : Int)) (k : Int) (hk : -2147483648 ≤ k ∧ k < 2147483648) : CR l D aC y_Li_holds (rd 0 0) [.ref a, .int (iI k)] [(a, .inr (1, [.ref al, .ref lo, .ref hi, .ref va, .int (iI ct)])), (al, eI aC n fl)] (fun v => v = some (.int (iI (zP (0 ≤ k ∧ k < ct))))) := by
  refine CR.of (cc := b_Li_holds) (maxL := 2) (ret := (some .boolean)) (by decide +kernel) k_Li_holds (Nat.le_of_ble_eq_true rfl) ?_
  intro p e s m below meth c Q S hr hlocks hQ hK hN hP ls hl
  obtain ⟨hx, hb, hml, hown, hts⟩ := id S
  have hl : lv_has ls 2 [(0, .ref a), (1, .int (iI k))] := hl
  refine lv_iload_n hx hb d_Li_holds_0 rfl (lv_at hl 1 rfl) ?_
  refine x_if_lt (tgt := 16) hx hb d_Li_holds_1 (by decide) (by omega) (fun c_1 => ?_) (fun c_1 => ?_)
  · refine lv_iconst (v := iI 0) hx hb d_Li_holds_16 rfl ?_
    exact y_zret hx hb hr (rfl) hlocks hQ (by rw [zP_f (by omega)]) d_Li_holds_17
  · refine lv_iload_n hx hb d_Li_holds_4 rfl (lv_at hl 1 rfl) ?_
    refine lv_aload_n hx hb d_Li_holds_5 rfl (lv_at hl 0 rfl) ?_
    refine va_get (D := D) (ci := 1) (v := .int (iI ct)) (C := R_Li) (T := F_Li) (N := 5) hx hb hts i_Li hown hK hP 0 rfl rfl 4 (by decide) (hts _ wf_Li_38) (fun _ h9 => h9) rfl d_Li_holds_6 ?_
    refine x_icmp_ge (tgt := 16) hx hb d_Li_holds_9 (by decide) (by omega) (by omega) (fun c_9 => ?_) (fun c_9 => ?_)
    · refine lv_iconst (v := iI 0) hx hb d_Li_holds_16 rfl ?_
      exact y_zret hx hb hr (rfl) hlocks hQ (by rw [zP_f (by omega)]) d_Li_holds_17
    · refine lv_iconst (v := iI 1) hx hb d_Li_holds_12 rfl ?_
      refine lv_goto (tgt := 17) hx hb d_Li_holds_13 (by decide) ?_
      exact y_zret hx hb hr (rfl) hlocks hQ (by rw [zP_t (by omega)]) d_Li_holds_17
set_option maxHeartbeats 4000000 in
set_option maxRecDepth 100000 in
theorem c_Li_hasLow (l : Launch) (D : va_G) (aC : Nat → ClassId) (a al lo hi va n : Nat) (fl : Int → Int) (ct : Int) (hn : n < 2147483648) (hc : 0 ≤ ct ∧ ct ≤ (n : Int)) (k : Int) (hk : 0 ≤ k ∧ k < (n : Int)) : CR l D aC y_Li_hasLow (rd 0 0) [.ref a, .int (iI k)] [(a, .inr (1, [.ref al, .ref lo, .ref hi, .ref va, .int (iI ct)])), (al, eI aC n fl)] (fun v => v = some (.int (iI (zP (fl k % 2 ≠ 0))))) := by
  refine CR.of (cc := b_Li_hasLow) (maxL := 2) (ret := (some .boolean)) (by decide +kernel) k_Li_hasLow (Nat.le_of_ble_eq_true rfl) ?_
  intro p e s m below meth c Q S hr hlocks hQ hK hN hP ls hl
  obtain ⟨hx, hb, hml, hown, hts⟩ := id S
  have hl : lv_has ls 2 [(0, .ref a), (1, .int (iI k))] := hl
  refine lv_iload_n hx hb d_Li_hasLow_0 rfl (lv_at hl 1 rfl) ?_
  refine x_if_lt (tgt := 28) hx hb d_Li_hasLow_1 (by decide) (by omega) (fun c_1 => (by exfalso; omega)) (fun c_1 => ?_)
  refine lv_iload_n hx hb d_Li_hasLow_4 rfl (lv_at hl 1 rfl) ?_
  refine lv_aload_n hx hb d_Li_hasLow_5 rfl (lv_at hl 0 rfl) ?_
  refine va_get (D := D) (ci := 1) (v := .ref al) (C := R_Li) (T := F_Li) (N := 5) hx hb hts i_Li hown hK hP 0 rfl rfl 0 (by decide) (hts _ wf_Li_13) (fun _ h9 => h9) rfl d_Li_hasLow_6 ?_
  refine x_alen hx hb hK hP 1 0 rfl rfl (n := n) rfl d_Li_hasLow_9 ?_
  refine x_icmp_ge (tgt := 28) hx hb d_Li_hasLow_10 (by decide) (by omega) (by omega) (fun c_10 => (by exfalso; omega)) (fun c_10 => ?_)
  refine lv_aload_n hx hb d_Li_hasLow_13 rfl (lv_at hl 0 rfl) ?_
  refine va_get (D := D) (ci := 1) (v := .ref al) (C := R_Li) (T := F_Li) (N := 5) hx hb hts i_Li hown hK hP 0 rfl rfl 0 (by decide) (hts _ wf_Li_13) (fun _ h9 => h9) rfl d_Li_hasLow_14 ?_
  refine lv_iload_n hx hb d_Li_hasLow_17 rfl (lv_at hl 1 rfl) ?_
  refine x_iald hx hb hK hP 1 rfl (by omega) (hn) d_Li_hasLow_18 ?_
  refine lv_iconst (v := iI 1) hx hb d_Li_hasLow_19 rfl ?_
  refine x_iand (v := ((fl k) % 2)) hx hb d_Li_hasLow_20 (iI_m1 _) ?_
  refine x_if_eq (tgt := 28) hx hb d_Li_hasLow_21 (by decide) (by omega) (fun c_21 => ?_) (fun c_21 => ?_)
  · refine lv_iconst (v := iI 0) hx hb d_Li_hasLow_28 rfl ?_
    exact y_zret hx hb hr (rfl) hlocks hQ (by rw [zP_f (fun q => q c_21)]) d_Li_hasLow_29
  · refine lv_iconst (v := iI 1) hx hb d_Li_hasLow_24 rfl ?_
    refine lv_goto (tgt := 29) hx hb d_Li_hasLow_25 (by decide) ?_
    exact y_zret hx hb hr (rfl) hlocks hQ (by rw [zP_t c_21]) d_Li_hasLow_29
set_option maxHeartbeats 4000000 in
set_option maxRecDepth 100000 in
theorem c_Li_hasHigh (l : Launch) (D : va_G) (aC : Nat → ClassId) (a al lo hi va n : Nat) (fl : Int → Int) (ct : Int) (hn : n < 2147483648) (hc : 0 ≤ ct ∧ ct ≤ (n : Int)) (k : Int) (hk : 0 ≤ k ∧ k < (n : Int)) : CR l D aC y_Li_hasHigh (rd 0 0) [.ref a, .int (iI k)] [(a, .inr (1, [.ref al, .ref lo, .ref hi, .ref va, .int (iI ct)])), (al, eI aC n fl)] (fun v => v = some (.int (iI (zP (fl k / 2 % 2 * 2 ≠ 0))))) := by
  refine CR.of (cc := b_Li_hasHigh) (maxL := 2) (ret := (some .boolean)) (by decide +kernel) k_Li_hasHigh (Nat.le_of_ble_eq_true rfl) ?_
  intro p e s m below meth c Q S hr hlocks hQ hK hN hP ls hl
  obtain ⟨hx, hb, hml, hown, hts⟩ := id S
  have hl : lv_has ls 2 [(0, .ref a), (1, .int (iI k))] := hl
  refine lv_iload_n hx hb d_Li_hasHigh_0 rfl (lv_at hl 1 rfl) ?_
  refine x_if_lt (tgt := 28) hx hb d_Li_hasHigh_1 (by decide) (by omega) (fun c_1 => (by exfalso; omega)) (fun c_1 => ?_)
  refine lv_iload_n hx hb d_Li_hasHigh_4 rfl (lv_at hl 1 rfl) ?_
  refine lv_aload_n hx hb d_Li_hasHigh_5 rfl (lv_at hl 0 rfl) ?_
  refine va_get (D := D) (ci := 1) (v := .ref al) (C := R_Li) (T := F_Li) (N := 5) hx hb hts i_Li hown hK hP 0 rfl rfl 0 (by decide) (hts _ wf_Li_13) (fun _ h9 => h9) rfl d_Li_hasHigh_6 ?_
  refine x_alen hx hb hK hP 1 0 rfl rfl (n := n) rfl d_Li_hasHigh_9 ?_
  refine x_icmp_ge (tgt := 28) hx hb d_Li_hasHigh_10 (by decide) (by omega) (by omega) (fun c_10 => (by exfalso; omega)) (fun c_10 => ?_)
  refine lv_aload_n hx hb d_Li_hasHigh_13 rfl (lv_at hl 0 rfl) ?_
  refine va_get (D := D) (ci := 1) (v := .ref al) (C := R_Li) (T := F_Li) (N := 5) hx hb hts i_Li hown hK hP 0 rfl rfl 0 (by decide) (hts _ wf_Li_13) (fun _ h9 => h9) rfl d_Li_hasHigh_14 ?_
  refine lv_iload_n hx hb d_Li_hasHigh_17 rfl (lv_at hl 1 rfl) ?_
  refine x_iald hx hb hK hP 1 rfl (by omega) (hn) d_Li_hasHigh_18 ?_
  refine lv_iconst (v := iI 2) hx hb d_Li_hasHigh_19 rfl ?_
  refine x_iand (v := ((fl k) / 2 % 2 * 2)) hx hb d_Li_hasHigh_20 (iI_bit _ 1 (by decide)) ?_
  refine x_if_eq (tgt := 28) hx hb d_Li_hasHigh_21 (by decide) (by omega) (fun c_21 => ?_) (fun c_21 => ?_)
  · refine lv_iconst (v := iI 0) hx hb d_Li_hasHigh_28 rfl ?_
    exact y_zret hx hb hr (rfl) hlocks hQ (by rw [zP_f (fun q => q c_21)]) d_Li_hasHigh_29
  · refine lv_iconst (v := iI 1) hx hb d_Li_hasHigh_24 rfl ?_
    refine lv_goto (tgt := 29) hx hb d_Li_hasHigh_25 (by decide) ?_
    exact y_zret hx hb hr (rfl) hlocks hQ (by rw [zP_t c_21]) d_Li_hasHigh_29
set_option maxHeartbeats 4000000 in
set_option maxRecDepth 100000 in
theorem c_Li_append (l : Launch) (D : va_G) (aC : Nat → ClassId) (a al lo hi va lm le hm he n : Nat) (fl flm fle fhm fhe : Int → Int) (ct has : Int) (hn : n < 2147483648) (hc : 0 ≤ ct ∧ ct < (n : Int)) (hh : 0 ≤ has ∧ has ≤ 3) (k q k' q' : Int) (hk : -4294967296 < k ∧ k < 4294967296) (hq : -3 ≤ q ∧ q ≤ 0) (hk' : -4294967296 < k' ∧ k' < 4294967296) (hq' : -3 ≤ q' ∧ q' ≤ 0) : CT l D aC y_Li_append (rd 1 33) [.ref a, .int (iI has), .double (dM k q), .double (dM k' q')] [(a, .inr (1, [.ref al, .ref lo, .ref hi, .ref va, .int (iI ct)])), (al, eI aC n fl), (lo, .inr (0, [.ref lm, .ref le])), (lm, eJ aC n flm), (le, eI aC n fle), (hi, .inr (0, [.ref hm, .ref he])), (hm, eJ aC n fhm), (he, eI aC n fhe)] (fun v w => v = some (.int (iI ct)) ∧ w = [(a, .inr (1, [.ref al, .ref lo, .ref hi, .ref va, .int (iI (ct + 1))])), (al, eI aC n (updI fl ct has)), (lo, .inr (0, [.ref lm, .ref le])), (lm, eJ aC n (cu (has % 2) flm ct (k * 2 ^ nt k))), (le, eI aC n (cu (has % 2) fle ct (nx k q 0))), (hi, .inr (0, [.ref hm, .ref he])), (hm, eJ aC n (cu (has / 2 % 2 * 2) fhm ct (k' * 2 ^ nt k'))), (he, eI aC n (cu (has / 2 % 2 * 2) fhe ct (nx k' q' 0)))]) := by
  refine CT.of (cc := b_Li_append) (maxL := 7) (ret := (some .int)) (by decide +kernel) k_Li_append (Nat.le_of_ble_eq_true rfl) ?_
  intro p e s m below meth c Q S hr hlocks hQ hK hN hP hD hS ls hl
  obtain ⟨hx, hb, hml, hown, hts⟩ := id S
  have hl : lv_has ls 7 [(0, .ref a), (1, .int (iI has)), (2, .double (dM k q)), (4, .double (dM k' q'))] := hl
  refine lv_aload_n hx hb d_Li_append_0 rfl (lv_at hl 0 rfl) ?_
  refine va_get (D := D) (ci := 1) (v := .int (iI ct)) (C := R_Li) (T := F_Li) (N := 5) hx hb hts i_Li hown hK hP 0 rfl rfl 4 (by decide) (hts _ wf_Li_38) (fun _ h9 => h9) rfl d_Li_append_1 ?_
  refine lv_istore (lv' := [(6, .int (iI ct)), (0, .ref a), (1, .int (iI has)), (2, .double (dM k q)), (4, .double (dM k' q'))]) hx hb d_Li_append_4 hl (by decide) rfl (fun ls hl => ?_)
  refine lv_iload hx hb d_Li_append_6 (lv_at hl 0 rfl) ?_
  refine x_if_lt (tgt := 21) hx hb d_Li_append_8 (by decide) (by omega) (fun c_8 => (by exfalso; omega)) (fun c_8 => ?_)
  refine lv_iload hx hb d_Li_append_11 (lv_at hl 0 rfl) ?_
  refine lv_aload_n hx hb d_Li_append_13 rfl (lv_at hl 1 rfl) ?_
  refine va_get (D := D) (ci := 1) (v := .ref al) (C := R_Li) (T := F_Li) (N := 5) hx hb hts i_Li hown hK hP 0 rfl rfl 0 (by decide) (hts _ wf_Li_13) (fun _ h9 => h9) rfl d_Li_append_14 ?_
  refine x_alen hx hb hK hP 1 0 rfl rfl (n := n) rfl d_Li_append_17 ?_
  refine x_icmp_lt (tgt := 23) hx hb d_Li_append_18 (by decide) (by omega) (by omega) (fun c_18 => ?_) (fun c_18 => (by exfalso; omega))
  refine lv_aload_n hx hb d_Li_append_23 rfl (lv_at hl 1 rfl) ?_
  refine va_get (D := D) (ci := 1) (v := .ref al) (C := R_Li) (T := F_Li) (N := 5) hx hb hts i_Li hown hK hP 0 rfl rfl 0 (by decide) (hts _ wf_Li_13) (fun _ h9 => h9) rfl d_Li_append_24 ?_
  refine lv_iload hx hb d_Li_append_27 (lv_at hl 0 rfl) ?_
  refine lv_iload_n hx hb d_Li_append_29 rfl (lv_at hl 2 rfl) ?_
  refine x_iast hx hb hK hP hD hS 1 rfl (by omega) (hn) d_Li_append_30 (fun H locs hP hD hS => ?_)
  have hP : va_P D CL [(a, .inr (1, [.ref al, .ref lo, .ref hi, .ref va, .int (iI ct)])), (al, eI aC n (updI fl ct has)), (lo, .inr (0, [.ref lm, .ref le])), (lm, eJ aC n flm), (le, eI aC n fle), (hi, .inr (0, [.ref hm, .ref he])), (hm, eJ aC n fhm), (he, eI aC n fhe)] H := hP
  have hD : va_D (aW [(a, .inr (1, [.ref al, .ref lo, .ref hi, .ref va, .int (iI ct)])), (al, eI aC n fl), (lo, .inr (0, [.ref lm, .ref le])), (lm, eJ aC n flm), (le, eI aC n fle), (hi, .inr (0, [.ref hm, .ref he])), (hm, eJ aC n fhm), (he, eI aC n fhe)]) [(a, .inr (1, [.ref al, .ref lo, .ref hi, .ref va, .int (iI ct)])), (al, eI aC n (updI fl ct has)), (lo, .inr (0, [.ref lm, .ref le])), (lm, eJ aC n flm), (le, eI aC n fle), (hi, .inr (0, [.ref hm, .ref he])), (hm, eJ aC n fhm), (he, eI aC n fhe)] := hD
  refine lv_iload_n hx hb d_Li_append_31 rfl (lv_at hl 2 rfl) ?_
  refine lv_iconst (v := iI 1) hx hb d_Li_append_32 rfl ?_
  refine x_iand (v := (has % 2)) hx hb d_Li_append_33 (iI_m1 _) ?_
  refine x_if_eq (tgt := 48) hx hb d_Li_append_34 (by decide) (by omega) (fun c_34 => ?_) (fun c_34 => ?_)
  · refine lv_iload_n hx hb d_Li_append_48 rfl (lv_at hl 2 rfl) ?_
    refine lv_iconst (v := iI 2) hx hb d_Li_append_49 rfl ?_
    refine x_iand (v := (has / 2 % 2 * 2)) hx hb d_Li_append_50 (iI_bit _ 1 (by decide)) ?_
    refine x_if_eq (tgt := 66) hx hb d_Li_append_51 (by decide) (by omega) (fun c_51 => ?_) (fun c_51 => ?_)
    · refine lv_aload_n hx hb d_Li_append_66 rfl (lv_at hl 1 rfl) ?_
      refine lv_dup hx hb d_Li_append_67 rfl ?_
      refine va_get (D := D) (ci := 1) (v := .int (iI ct)) (C := R_Li) (T := F_Li) (N := 5) hx hb hts i_Li hown hK hP 0 rfl rfl 4 (by decide) (hts _ wf_Li_38) (fun _ h9 => h9) rfl d_Li_append_68 ?_
      refine lv_iconst (v := iI 1) hx hb d_Li_append_71 rfl ?_
      refine x_iadd hx hb d_Li_append_72 ?_
      refine va_put (D := D) (ci := 1) (v := .int (iI (ct + 1))) (ty := .int) (C := R_Li) (T := F_Li) (N := 5) hx hb hts i_Li t_Li t_Li_ok n_Li hown hK hP hD hS 0 rfl rfl 4 (by decide) (hts _ wf_Li_38) (fun _ h9 => h9) rfl (by decide +kernel) rfl rfl (Nat.le_of_ble_eq_true rfl) d_Li_append_73 (fun H locs hP hD hS => ?_)
      have hP : va_P D CL [(a, .inr (1, [.ref al, .ref lo, .ref hi, .ref va, .int (iI (ct + 1))])), (al, eI aC n (updI fl ct has)), (lo, .inr (0, [.ref lm, .ref le])), (lm, eJ aC n flm), (le, eI aC n fle), (hi, .inr (0, [.ref hm, .ref he])), (hm, eJ aC n fhm), (he, eI aC n fhe)] H := hP
      have hD : va_D (aW [(a, .inr (1, [.ref al, .ref lo, .ref hi, .ref va, .int (iI ct)])), (al, eI aC n fl), (lo, .inr (0, [.ref lm, .ref le])), (lm, eJ aC n flm), (le, eI aC n fle), (hi, .inr (0, [.ref hm, .ref he])), (hm, eJ aC n fhm), (he, eI aC n fhe)]) [(a, .inr (1, [.ref al, .ref lo, .ref hi, .ref va, .int (iI (ct + 1))])), (al, eI aC n (updI fl ct has)), (lo, .inr (0, [.ref lm, .ref le])), (lm, eJ aC n flm), (le, eI aC n fle), (hi, .inr (0, [.ref hm, .ref he])), (hm, eJ aC n fhm), (he, eI aC n fhe)] := hD
      refine lv_iload hx hb d_Li_append_76 (lv_at hl 0 rfl) ?_
      exact x_iret hx hb hr hlocks hQ (⟨rfl, show [(a, .inr (1, [.ref al, .ref lo, .ref hi, .ref va, .int (iI (ct + 1))])), (al, eI aC n (updI fl ct has)), (lo, .inr (0, [.ref lm, .ref le])), (lm, eJ aC n flm), (le, eI aC n fle), (hi, .inr (0, [.ref hm, .ref he])), (hm, eJ aC n fhm), (he, eI aC n fhe)] = _ by rw [cu_0 c_34, cu_0 c_34, cu_0 c_51, cu_0 c_51]⟩) rfl hP hS d_Li_append_78
    · refine lv_aload_n hx hb d_Li_append_54 rfl (lv_at hl 1 rfl) ?_
      refine va_get (D := D) (ci := 1) (v := .ref hi) (C := R_Li) (T := F_Li) (N := 5) hx hb hts i_Li hown hK hP 0 rfl rfl 2 (by decide) (hts _ wf_Li_28) (fun _ h9 => h9) rfl d_Li_append_55 ?_
      refine lv_iload hx hb d_Li_append_58 (lv_at hl 0 rfl) ?_
      refine lv_dload hx hb d_Li_append_60 (lv_at hl 4 rfl) ?_
      refine lv_iconst (v := iI 0) hx hb d_Li_append_62 rfl ?_
      refine x_callV0F S (c_Nu_put l D aC hi hm he n fhm fhe ct k' q' 0 (by omega) (hn) (by omega) (by omega) (by omega)) t_Li_42 (rm_ok (by decide) (by decide)) hK hN hP hD hS [5, 6, 7] [] rfl rfl (fun w9 hw => by obtain rfl := hw; exact ⟨rfl, Nat.le_of_ble_eq_true rfl⟩) 0 0 rfl rfl rfl hl.1 rfl (Nat.le_of_ble_eq_true rfl) d_Li_append_63 ⟨Nat.zero_le _, Nat.zero_le _⟩ (fun w1 ws1 H locs e9 hw hP hD hS => ?_)
      obtain rfl := hw
      have e9 : ws1 = [(a, .inr (1, [.ref al, .ref lo, .ref hi, .ref va, .int (iI ct)])), (al, eI aC n (updI fl ct has)), (lo, .inr (0, [.ref lm, .ref le])), (lm, eJ aC n flm), (le, eI aC n fle), (hi, .inr (0, [.ref hm, .ref he])), (hm, eJ aC n (updI fhm ct (k' * 2 ^ nt k'))), (he, eI aC n (updI fhe ct (nx k' q' 0)))] := e9
      subst e9
      refine lv_aload_n hx hb d_Li_append_66 rfl (lv_at hl 1 rfl) ?_
      refine lv_dup hx hb d_Li_append_67 rfl ?_
      refine va_get (D := D) (ci := 1) (v := .int (iI ct)) (C := R_Li) (T := F_Li) (N := 5) hx hb hts i_Li hown hK hP 0 rfl rfl 4 (by decide) (hts _ wf_Li_38) (fun _ h9 => h9) rfl d_Li_append_68 ?_
      refine lv_iconst (v := iI 1) hx hb d_Li_append_71 rfl ?_
      refine x_iadd hx hb d_Li_append_72 ?_
      refine va_put (D := D) (ci := 1) (v := .int (iI (ct + 1))) (ty := .int) (C := R_Li) (T := F_Li) (N := 5) hx hb hts i_Li t_Li t_Li_ok n_Li hown hK hP hD hS 0 rfl rfl 4 (by decide) (hts _ wf_Li_38) (fun _ h9 => h9) rfl (by decide +kernel) rfl rfl (Nat.le_of_ble_eq_true rfl) d_Li_append_73 (fun H locs hP hD hS => ?_)
      have hP : va_P D CL [(a, .inr (1, [.ref al, .ref lo, .ref hi, .ref va, .int (iI (ct + 1))])), (al, eI aC n (updI fl ct has)), (lo, .inr (0, [.ref lm, .ref le])), (lm, eJ aC n flm), (le, eI aC n fle), (hi, .inr (0, [.ref hm, .ref he])), (hm, eJ aC n (updI fhm ct (k' * 2 ^ nt k'))), (he, eI aC n (updI fhe ct (nx k' q' 0)))] H := hP
      have hD : va_D (aW [(a, .inr (1, [.ref al, .ref lo, .ref hi, .ref va, .int (iI ct)])), (al, eI aC n fl), (lo, .inr (0, [.ref lm, .ref le])), (lm, eJ aC n flm), (le, eI aC n fle), (hi, .inr (0, [.ref hm, .ref he])), (hm, eJ aC n fhm), (he, eI aC n fhe)]) [(a, .inr (1, [.ref al, .ref lo, .ref hi, .ref va, .int (iI (ct + 1))])), (al, eI aC n (updI fl ct has)), (lo, .inr (0, [.ref lm, .ref le])), (lm, eJ aC n flm), (le, eI aC n fle), (hi, .inr (0, [.ref hm, .ref he])), (hm, eJ aC n (updI fhm ct (k' * 2 ^ nt k'))), (he, eI aC n (updI fhe ct (nx k' q' 0)))] := hD
      refine lv_iload hx hb d_Li_append_76 (lv_at hl 0 rfl) ?_
      exact x_iret hx hb hr hlocks hQ (⟨rfl, show [(a, .inr (1, [.ref al, .ref lo, .ref hi, .ref va, .int (iI (ct + 1))])), (al, eI aC n (updI fl ct has)), (lo, .inr (0, [.ref lm, .ref le])), (lm, eJ aC n flm), (le, eI aC n fle), (hi, .inr (0, [.ref hm, .ref he])), (hm, eJ aC n (updI fhm ct (k' * 2 ^ nt k'))), (he, eI aC n (updI fhe ct (nx k' q' 0)))] = _ by rw [cu_0 c_34, cu_0 c_34, cu_1 c_51, cu_1 c_51]⟩) rfl hP hS d_Li_append_78
  · refine lv_aload_n hx hb d_Li_append_37 rfl (lv_at hl 1 rfl) ?_
    refine va_get (D := D) (ci := 1) (v := .ref lo) (C := R_Li) (T := F_Li) (N := 5) hx hb hts i_Li hown hK hP 0 rfl rfl 1 (by decide) (hts _ wf_Li_24) (fun _ h9 => h9) rfl d_Li_append_38 ?_
    refine lv_iload hx hb d_Li_append_41 (lv_at hl 0 rfl) ?_
    refine lv_dload_n hx hb d_Li_append_43 rfl (lv_at hl 3 rfl) ?_
    refine lv_iconst (v := iI 0) hx hb d_Li_append_44 rfl ?_
    refine x_callV0F S (c_Nu_put l D aC lo lm le n flm fle ct k q 0 (by omega) (hn) (by omega) (by omega) (by omega)) t_Li_42 (rm_ok (by decide) (by decide)) hK hN hP hD hS [2, 3, 4] [] rfl rfl (fun w9 hw => by obtain rfl := hw; exact ⟨rfl, Nat.le_of_ble_eq_true rfl⟩) 0 0 rfl rfl rfl hl.1 rfl (Nat.le_of_ble_eq_true rfl) d_Li_append_45 ⟨Nat.zero_le _, Nat.zero_le _⟩ (fun w1 ws1 H locs e9 hw hP hD hS => ?_)
    obtain rfl := hw
    have e9 : ws1 = [(a, .inr (1, [.ref al, .ref lo, .ref hi, .ref va, .int (iI ct)])), (al, eI aC n (updI fl ct has)), (lo, .inr (0, [.ref lm, .ref le])), (lm, eJ aC n (updI flm ct (k * 2 ^ nt k))), (le, eI aC n (updI fle ct (nx k q 0))), (hi, .inr (0, [.ref hm, .ref he])), (hm, eJ aC n fhm), (he, eI aC n fhe)] := e9
    subst e9
    refine lv_iload_n hx hb d_Li_append_48 rfl (lv_at hl 2 rfl) ?_
    refine lv_iconst (v := iI 2) hx hb d_Li_append_49 rfl ?_
    refine x_iand (v := (has / 2 % 2 * 2)) hx hb d_Li_append_50 (iI_bit _ 1 (by decide)) ?_
    refine x_if_eq (tgt := 66) hx hb d_Li_append_51 (by decide) (by omega) (fun c_51 => ?_) (fun c_51 => ?_)
    · refine lv_aload_n hx hb d_Li_append_66 rfl (lv_at hl 1 rfl) ?_
      refine lv_dup hx hb d_Li_append_67 rfl ?_
      refine va_get (D := D) (ci := 1) (v := .int (iI ct)) (C := R_Li) (T := F_Li) (N := 5) hx hb hts i_Li hown hK hP 0 rfl rfl 4 (by decide) (hts _ wf_Li_38) (fun _ h9 => h9) rfl d_Li_append_68 ?_
      refine lv_iconst (v := iI 1) hx hb d_Li_append_71 rfl ?_
      refine x_iadd hx hb d_Li_append_72 ?_
      refine va_put (D := D) (ci := 1) (v := .int (iI (ct + 1))) (ty := .int) (C := R_Li) (T := F_Li) (N := 5) hx hb hts i_Li t_Li t_Li_ok n_Li hown hK hP hD hS 0 rfl rfl 4 (by decide) (hts _ wf_Li_38) (fun _ h9 => h9) rfl (by decide +kernel) rfl rfl (Nat.le_of_ble_eq_true rfl) d_Li_append_73 (fun H locs hP hD hS => ?_)
      have hP : va_P D CL [(a, .inr (1, [.ref al, .ref lo, .ref hi, .ref va, .int (iI (ct + 1))])), (al, eI aC n (updI fl ct has)), (lo, .inr (0, [.ref lm, .ref le])), (lm, eJ aC n (updI flm ct (k * 2 ^ nt k))), (le, eI aC n (updI fle ct (nx k q 0))), (hi, .inr (0, [.ref hm, .ref he])), (hm, eJ aC n fhm), (he, eI aC n fhe)] H := hP
      have hD : va_D (aW [(a, .inr (1, [.ref al, .ref lo, .ref hi, .ref va, .int (iI ct)])), (al, eI aC n fl), (lo, .inr (0, [.ref lm, .ref le])), (lm, eJ aC n flm), (le, eI aC n fle), (hi, .inr (0, [.ref hm, .ref he])), (hm, eJ aC n fhm), (he, eI aC n fhe)]) [(a, .inr (1, [.ref al, .ref lo, .ref hi, .ref va, .int (iI (ct + 1))])), (al, eI aC n (updI fl ct has)), (lo, .inr (0, [.ref lm, .ref le])), (lm, eJ aC n (updI flm ct (k * 2 ^ nt k))), (le, eI aC n (updI fle ct (nx k q 0))), (hi, .inr (0, [.ref hm, .ref he])), (hm, eJ aC n fhm), (he, eI aC n fhe)] := hD
      refine lv_iload hx hb d_Li_append_76 (lv_at hl 0 rfl) ?_
      exact x_iret hx hb hr hlocks hQ (⟨rfl, show [(a, .inr (1, [.ref al, .ref lo, .ref hi, .ref va, .int (iI (ct + 1))])), (al, eI aC n (updI fl ct has)), (lo, .inr (0, [.ref lm, .ref le])), (lm, eJ aC n (updI flm ct (k * 2 ^ nt k))), (le, eI aC n (updI fle ct (nx k q 0))), (hi, .inr (0, [.ref hm, .ref he])), (hm, eJ aC n fhm), (he, eI aC n fhe)] = _ by rw [cu_1 c_34, cu_1 c_34, cu_0 c_51, cu_0 c_51]⟩) rfl hP hS d_Li_append_78
    · refine lv_aload_n hx hb d_Li_append_54 rfl (lv_at hl 1 rfl) ?_
      refine va_get (D := D) (ci := 1) (v := .ref hi) (C := R_Li) (T := F_Li) (N := 5) hx hb hts i_Li hown hK hP 0 rfl rfl 2 (by decide) (hts _ wf_Li_28) (fun _ h9 => h9) rfl d_Li_append_55 ?_
      refine lv_iload hx hb d_Li_append_58 (lv_at hl 0 rfl) ?_
      refine lv_dload hx hb d_Li_append_60 (lv_at hl 4 rfl) ?_
      refine lv_iconst (v := iI 0) hx hb d_Li_append_62 rfl ?_
      refine x_callV0F S (c_Nu_put l D aC hi hm he n fhm fhe ct k' q' 0 (by omega) (hn) (by omega) (by omega) (by omega)) t_Li_42 (rm_ok (by decide) (by decide)) hK hN hP hD hS [5, 6, 7] [] rfl rfl (fun w9 hw => by obtain rfl := hw; exact ⟨rfl, Nat.le_of_ble_eq_true rfl⟩) 0 0 rfl rfl rfl hl.1 rfl (Nat.le_of_ble_eq_true rfl) d_Li_append_63 ⟨Nat.zero_le _, Nat.zero_le _⟩ (fun w1 ws1 H locs e9 hw hP hD hS => ?_)
      obtain rfl := hw
      have e9 : ws1 = [(a, .inr (1, [.ref al, .ref lo, .ref hi, .ref va, .int (iI ct)])), (al, eI aC n (updI fl ct has)), (lo, .inr (0, [.ref lm, .ref le])), (lm, eJ aC n (updI flm ct (k * 2 ^ nt k))), (le, eI aC n (updI fle ct (nx k q 0))), (hi, .inr (0, [.ref hm, .ref he])), (hm, eJ aC n (updI fhm ct (k' * 2 ^ nt k'))), (he, eI aC n (updI fhe ct (nx k' q' 0)))] := e9
      subst e9
      refine lv_aload_n hx hb d_Li_append_66 rfl (lv_at hl 1 rfl) ?_
      refine lv_dup hx hb d_Li_append_67 rfl ?_
      refine va_get (D := D) (ci := 1) (v := .int (iI ct)) (C := R_Li) (T := F_Li) (N := 5) hx hb hts i_Li hown hK hP 0 rfl rfl 4 (by decide) (hts _ wf_Li_38) (fun _ h9 => h9) rfl d_Li_append_68 ?_
      refine lv_iconst (v := iI 1) hx hb d_Li_append_71 rfl ?_
      refine x_iadd hx hb d_Li_append_72 ?_
      refine va_put (D := D) (ci := 1) (v := .int (iI (ct + 1))) (ty := .int) (C := R_Li) (T := F_Li) (N := 5) hx hb hts i_Li t_Li t_Li_ok n_Li hown hK hP hD hS 0 rfl rfl 4 (by decide) (hts _ wf_Li_38) (fun _ h9 => h9) rfl (by decide +kernel) rfl rfl (Nat.le_of_ble_eq_true rfl) d_Li_append_73 (fun H locs hP hD hS => ?_)
      have hP : va_P D CL [(a, .inr (1, [.ref al, .ref lo, .ref hi, .ref va, .int (iI (ct + 1))])), (al, eI aC n (updI fl ct has)), (lo, .inr (0, [.ref lm, .ref le])), (lm, eJ aC n (updI flm ct (k * 2 ^ nt k))), (le, eI aC n (updI fle ct (nx k q 0))), (hi, .inr (0, [.ref hm, .ref he])), (hm, eJ aC n (updI fhm ct (k' * 2 ^ nt k'))), (he, eI aC n (updI fhe ct (nx k' q' 0)))] H := hP
      have hD : va_D (aW [(a, .inr (1, [.ref al, .ref lo, .ref hi, .ref va, .int (iI ct)])), (al, eI aC n fl), (lo, .inr (0, [.ref lm, .ref le])), (lm, eJ aC n flm), (le, eI aC n fle), (hi, .inr (0, [.ref hm, .ref he])), (hm, eJ aC n fhm), (he, eI aC n fhe)]) [(a, .inr (1, [.ref al, .ref lo, .ref hi, .ref va, .int (iI (ct + 1))])), (al, eI aC n (updI fl ct has)), (lo, .inr (0, [.ref lm, .ref le])), (lm, eJ aC n (updI flm ct (k * 2 ^ nt k))), (le, eI aC n (updI fle ct (nx k q 0))), (hi, .inr (0, [.ref hm, .ref he])), (hm, eJ aC n (updI fhm ct (k' * 2 ^ nt k'))), (he, eI aC n (updI fhe ct (nx k' q' 0)))] := hD
      refine lv_iload hx hb d_Li_append_76 (lv_at hl 0 rfl) ?_
      exact x_iret hx hb hr hlocks hQ (⟨rfl, show [(a, .inr (1, [.ref al, .ref lo, .ref hi, .ref va, .int (iI (ct + 1))])), (al, eI aC n (updI fl ct has)), (lo, .inr (0, [.ref lm, .ref le])), (lm, eJ aC n (updI flm ct (k * 2 ^ nt k))), (le, eI aC n (updI fle ct (nx k q 0))), (hi, .inr (0, [.ref hm, .ref he])), (hm, eJ aC n (updI fhm ct (k' * 2 ^ nt k'))), (he, eI aC n (updI fhe ct (nx k' q' 0)))] = _ by rw [cu_1 c_34, cu_1 c_34, cu_1 c_51, cu_1 c_51]⟩) rfl hP hS d_Li_append_78
set_option maxHeartbeats 4000000 in
set_option maxRecDepth 100000 in
theorem c_Ce_isFull (l : Launch) (D : va_G) (aC : Nat → ClassId) (a a1 a2 va n : Nat) (f1 f2 : Int → Int) (ct : Int) (hn : n < 2147483648) (hc : 0 ≤ ct ∧ ct ≤ (n : Int)) : CR l D aC y_Ce_isFull (rd 0 0) [.ref a] [(a, .inr (2, [.ref a1, .ref a2, .ref va, .int (iI ct)])), (a1, eI aC n f1), (a2, eI aC n f2)] (fun v => v = some (.int (iI (zP ((n : Int) ≤ ct))))) := by
  refine CR.of (cc := b_Ce_isFull) (maxL := 1) (ret := (some .boolean)) (by decide +kernel) k_Ce_isFull (Nat.le_of_ble_eq_true rfl) ?_
  intro p e s m below meth c Q S hr hlocks hQ hK hN hP ls hl
  obtain ⟨hx, hb, hml, hown, hts⟩ := id S
  have hl : lv_has ls 1 [(0, .ref a)] := hl
  refine lv_aload_n hx hb d_Ce_isFull_0 rfl (lv_at hl 0 rfl) ?_
  refine va_get (D := D) (ci := 2) (v := .int (iI ct)) (C := R_Ce) (T := F_Ce) (N := 4) hx hb hts i_Ce hown hK hP 0 rfl rfl 3 (by decide) (hts _ wf_Ce_31) (fun _ h9 => h9) rfl d_Ce_isFull_1 ?_
  refine lv_aload_n hx hb d_Ce_isFull_4 rfl (lv_at hl 0 rfl) ?_
  refine va_get (D := D) (ci := 2) (v := .ref a1) (C := R_Ce) (T := F_Ce) (N := 4) hx hb hts i_Ce hown hK hP 0 rfl rfl 0 (by decide) (hts _ wf_Ce_13) (fun _ h9 => h9) rfl d_Ce_isFull_5 ?_
  refine x_alen hx hb hK hP 1 0 rfl rfl (n := n) rfl d_Ce_isFull_8 ?_
  refine x_icmp_lt (tgt := 16) hx hb d_Ce_isFull_9 (by decide) (by omega) (by omega) (fun c_9 => ?_) (fun c_9 => ?_)
  · refine lv_iconst (v := iI 0) hx hb d_Ce_isFull_16 rfl ?_
    exact y_zret hx hb hr (rfl) hlocks hQ (by rw [zP_f (by omega)]) d_Ce_isFull_17
  · refine lv_iconst (v := iI 1) hx hb d_Ce_isFull_12 rfl ?_
    refine lv_goto (tgt := 17) hx hb d_Ce_isFull_13 (by decide) ?_
    exact y_zret hx hb hr (rfl) hlocks hQ (by rw [zP_t (by omega)]) d_Ce_isFull_17
set_option maxHeartbeats 4000000 in
set_option maxRecDepth 100000 in
theorem c_Ce_first (l : Launch) (D : va_G) (aC : Nat → ClassId) (a a1 a2 va n : Nat) (f1 f2 : Int → Int) (ct : Int) (hn : n < 2147483648) (hc : 0 ≤ ct ∧ ct ≤ (n : Int)) (k : Int) (hk : 0 ≤ k ∧ k < (n : Int)) : CR l D aC y_Ce_first (rd 0 0) [.ref a, .int (iI k)] [(a, .inr (2, [.ref a1, .ref a2, .ref va, .int (iI ct)])), (a1, eI aC n f1), (a2, eI aC n f2)] (fun v => v = some (.int (iI (f1 k)))) := by
  refine CR.of (cc := b_Ce_first) (maxL := 2) (ret := (some .int)) (by decide +kernel) k_Ce_first (Nat.le_of_ble_eq_true rfl) ?_
  intro p e s m below meth c Q S hr hlocks hQ hK hN hP ls hl
  obtain ⟨hx, hb, hml, hown, hts⟩ := id S
  have hl : lv_has ls 2 [(0, .ref a), (1, .int (iI k))] := hl
  refine lv_iload_n hx hb d_Ce_first_0 rfl (lv_at hl 1 rfl) ?_
  refine x_if_lt (tgt := 22) hx hb d_Ce_first_1 (by decide) (by omega) (fun c_1 => (by exfalso; omega)) (fun c_1 => ?_)
  refine lv_iload_n hx hb d_Ce_first_4 rfl (lv_at hl 1 rfl) ?_
  refine lv_aload_n hx hb d_Ce_first_5 rfl (lv_at hl 0 rfl) ?_
  refine va_get (D := D) (ci := 2) (v := .ref a1) (C := R_Ce) (T := F_Ce) (N := 4) hx hb hts i_Ce hown hK hP 0 rfl rfl 0 (by decide) (hts _ wf_Ce_13) (fun _ h9 => h9) rfl d_Ce_first_6 ?_
  refine x_alen hx hb hK hP 1 0 rfl rfl (n := n) rfl d_Ce_first_9 ?_
  refine x_icmp_ge (tgt := 22) hx hb d_Ce_first_10 (by decide) (by omega) (by omega) (fun c_10 => (by exfalso; omega)) (fun c_10 => ?_)
  refine lv_aload_n hx hb d_Ce_first_13 rfl (lv_at hl 0 rfl) ?_
  refine va_get (D := D) (ci := 2) (v := .ref a1) (C := R_Ce) (T := F_Ce) (N := 4) hx hb hts i_Ce hown hK hP 0 rfl rfl 0 (by decide) (hts _ wf_Ce_13) (fun _ h9 => h9) rfl d_Ce_first_14 ?_
  refine lv_iload_n hx hb d_Ce_first_17 rfl (lv_at hl 1 rfl) ?_
  refine x_iald hx hb hK hP 1 rfl (by omega) (hn) d_Ce_first_18 ?_
  refine lv_goto (tgt := 23) hx hb d_Ce_first_19 (by decide) ?_
  exact y_iret hx hb hr hlocks hQ (rfl) d_Ce_first_23
set_option maxHeartbeats 4000000 in
set_option maxRecDepth 100000 in
theorem c_Ce_second (l : Launch) (D : va_G) (aC : Nat → ClassId) (a a1 a2 va n : Nat) (f1 f2 : Int → Int) (ct : Int) (hn : n < 2147483648) (hc : 0 ≤ ct ∧ ct ≤ (n : Int)) (k : Int) (hk : 0 ≤ k ∧ k < (n : Int)) : CR l D aC y_Ce_second (rd 0 0) [.ref a, .int (iI k)] [(a, .inr (2, [.ref a1, .ref a2, .ref va, .int (iI ct)])), (a1, eI aC n f1), (a2, eI aC n f2)] (fun v => v = some (.int (iI (f2 k)))) := by
  refine CR.of (cc := b_Ce_second) (maxL := 2) (ret := (some .int)) (by decide +kernel) k_Ce_second (Nat.le_of_ble_eq_true rfl) ?_
  intro p e s m below meth c Q S hr hlocks hQ hK hN hP ls hl
  obtain ⟨hx, hb, hml, hown, hts⟩ := id S
  have hl : lv_has ls 2 [(0, .ref a), (1, .int (iI k))] := hl
  refine lv_iload_n hx hb d_Ce_second_0 rfl (lv_at hl 1 rfl) ?_
  refine x_if_lt (tgt := 22) hx hb d_Ce_second_1 (by decide) (by omega) (fun c_1 => (by exfalso; omega)) (fun c_1 => ?_)
  refine lv_iload_n hx hb d_Ce_second_4 rfl (lv_at hl 1 rfl) ?_
  refine lv_aload_n hx hb d_Ce_second_5 rfl (lv_at hl 0 rfl) ?_
  refine va_get (D := D) (ci := 2) (v := .ref a2) (C := R_Ce) (T := F_Ce) (N := 4) hx hb hts i_Ce hown hK hP 0 rfl rfl 1 (by decide) (hts _ wf_Ce_19) (fun _ h9 => h9) rfl d_Ce_second_6 ?_
  refine x_alen hx hb hK hP 2 0 rfl rfl (n := n) rfl d_Ce_second_9 ?_
  refine x_icmp_ge (tgt := 22) hx hb d_Ce_second_10 (by decide) (by omega) (by omega) (fun c_10 => (by exfalso; omega)) (fun c_10 => ?_)
  refine lv_aload_n hx hb d_Ce_second_13 rfl (lv_at hl 0 rfl) ?_
  refine va_get (D := D) (ci := 2) (v := .ref a2) (C := R_Ce) (T := F_Ce) (N := 4) hx hb hts i_Ce hown hK hP 0 rfl rfl 1 (by decide) (hts _ wf_Ce_19) (fun _ h9 => h9) rfl d_Ce_second_14 ?_
  refine lv_iload_n hx hb d_Ce_second_17 rfl (lv_at hl 1 rfl) ?_
  refine x_iald hx hb hK hP 2 rfl (by omega) (hn) d_Ce_second_18 ?_
  refine lv_goto (tgt := 23) hx hb d_Ce_second_19 (by decide) ?_
  exact y_iret hx hb hr hlocks hQ (rfl) d_Ce_second_23
set_option maxHeartbeats 4000000 in
set_option maxRecDepth 100000 in
theorem c_Ce_holds (l : Launch) (D : va_G) (aC : Nat → ClassId) (a a1 a2 va n : Nat) (f1 f2 : Int → Int) (ct : Int) (hn : n < 2147483648) (hc : 0 ≤ ct ∧ ct ≤ (n : Int)) (i j : Int) (hi : -2147483648 ≤ i ∧ i < 2147483648) (hj : -2147483648 ≤ j ∧ j < 2147483648) (hr12 : ∀ k : Int, 0 ≤ k → k < ct → (0 ≤ f1 k ∧ f1 k < 1000) ∧ (0 ≤ f2 k ∧ f2 k < 1000)) : CR l D aC y_Ce_holds (rd 1 21) [.ref a, .int (iI i), .int (iI j)] [(a, .inr (2, [.ref a1, .ref a2, .ref va, .int (iI ct)])), (a1, eI aC n f1), (a2, eI aC n f2)] (fun v => v = some (.int (iI (zP (inC f1 f2 i j ct.toNat = true))))) := by
  refine CR.of (cc := b_Ce_holds) (maxL := 4) (ret := (some .boolean)) (by decide +kernel) k_Ce_holds (Nat.le_of_ble_eq_true rfl) ?_
  intro p e s m below meth c Q S hr hlocks hQ hK hN hP ls hl
  obtain ⟨hx, hb, hml, hown, hts⟩ := id S
  have hl : lv_has ls 4 [(0, .ref a), (1, .int (iI i)), (2, .int (iI j))] := hl
  refine lv_iconst (v := iI 0) hx hb d_Ce_holds_0 rfl ?_
  refine lv_istore_n (lv' := [(3, .int (iI 0)), (0, .ref a), (1, .int (iI i)), (2, .int (iI j))]) hx hb d_Ce_holds_1 rfl hl (by decide) rfl (fun ls hl => ?_)
  have L2 : ∀ (nn : Nat) (t : Int) (ls : Array Slot), (0 ≤ t ∧ t ≤ ct) → (inC f1 f2 i j t.toNat = false) → ct - t < (nn : Int) → lv_has ls 4 [(3, .int (iI t)), (0, .ref a), (1, .int (iI i)), (2, .int (iI j))] → W p l e (rd 1 21) s m ([.ref a, .int (iI i), .int (iI j)]).toArray below meth c s.heap [] 0 0 Q (F0 m 2 ls []) := by
    intro nn
    induction nn with
    | zero => intro t ls ht hin hnn; exact absurd hnn (by omega)
    | succ nn ih =>
      intro t ls ht hin hnn hl
      refine lv_iload_n hx hb d_Ce_holds_2 rfl (lv_at hl 0 rfl) ?_
      refine lv_aload_n hx hb d_Ce_holds_3 rfl (lv_at hl 1 rfl) ?_
      refine va_get (D := D) (ci := 2) (v := .int (iI ct)) (C := R_Ce) (T := F_Ce) (N := 4) hx hb hts i_Ce hown hK hP 0 rfl rfl 3 (by decide) (hts _ wf_Ce_31) (fun _ h9 => h9) rfl d_Ce_holds_4 ?_
      refine x_icmp_ge (tgt := 36) hx hb d_Ce_holds_7 (by decide) (by omega) (by omega) (fun c_7 => ?_) (fun c_7 => ?_)
      · refine lv_iconst (v := iI 0) hx hb d_Ce_holds_36 rfl ?_
        exact y_zret hx hb hr (rfl) hlocks hQ (by rw [zP_f (by rw [show ct = t by omega, hin]; decide)]) d_Ce_holds_37
      · refine lv_aload_n hx hb d_Ce_holds_10 rfl (lv_at hl 1 rfl) ?_
        refine lv_iload_n hx hb d_Ce_holds_11 rfl (lv_at hl 0 rfl) ?_
        refine y_callV1 (V := .int (iI (f1 t))) S (c_Ce_first l D aC a a1 a2 va n f1 f2 ct (hn) (by omega) t (by omega)) t_Ce_35 (rm_ok (by decide) (by decide)) hK hN hP [0, 1, 2] rfl 0 2 rfl rfl rfl hl.1 rfl (Nat.le_of_ble_eq_true rfl) d_Ce_holds_12 ⟨Nat.zero_le _, Nat.zero_le _⟩ ?_
        have h12 := hr12 t (by omega) (by omega)
        refine lv_iload_n hx hb d_Ce_holds_15 rfl (lv_at hl 2 rfl) ?_
        refine x_icmp_ne (tgt := 30) hx hb d_Ce_holds_16 (by decide) (by omega) (by omega) (fun c_16 => ?_) (fun c_16 => ?_)
        · refine lv_iinc (v := iI (t + 1)) (lv' := [(3, .int (iI (t + 1))), (0, .ref a), (1, .int (iI i)), (2, .int (iI j))]) hx hb d_Ce_holds_30 hl (k := 0) rfl (iI_add _ _) (by decide) rfl (fun ls hl => ?_)
          refine lv_goto (tgt := 2) hx hb d_Ce_holds_33 (by decide) ?_
          exact ih (t + 1) ls (by omega) (inC_no ht.1 hin (by omega)) (by omega) (lv_sub hl [0, 1, 2, 3] rfl)
        · refine lv_aload_n hx hb d_Ce_holds_19 rfl (lv_at hl 1 rfl) ?_
          refine lv_iload_n hx hb d_Ce_holds_20 rfl (lv_at hl 0 rfl) ?_
          refine y_callV1 (V := .int (iI (f2 t))) S (c_Ce_second l D aC a a1 a2 va n f1 f2 ct (hn) (by omega) t (by omega)) t_Ce_39 (rm_ok (by decide) (by decide)) hK hN hP [0, 1, 2] rfl 0 2 rfl rfl rfl hl.1 rfl (Nat.le_of_ble_eq_true rfl) d_Ce_holds_21 ⟨Nat.zero_le _, Nat.zero_le _⟩ ?_
          refine lv_iload_n hx hb d_Ce_holds_24 rfl (lv_at hl 3 rfl) ?_
          refine x_icmp_ne (tgt := 30) hx hb d_Ce_holds_25 (by decide) (by omega) (by omega) (fun c_25 => ?_) (fun c_25 => ?_)
          · refine lv_iinc (v := iI (t + 1)) (lv' := [(3, .int (iI (t + 1))), (0, .ref a), (1, .int (iI i)), (2, .int (iI j))]) hx hb d_Ce_holds_30 hl (k := 0) rfl (iI_add _ _) (by decide) rfl (fun ls hl => ?_)
            refine lv_goto (tgt := 2) hx hb d_Ce_holds_33 (by decide) ?_
            exact ih (t + 1) ls (by omega) (inC_no ht.1 hin (by omega)) (by omega) (lv_sub hl [0, 1, 2, 3] rfl)
          · refine lv_iconst (v := iI 1) hx hb d_Ce_holds_28 rfl ?_
            exact y_zret hx hb hr (rfl) hlocks hQ (by rw [zP_t (inC_of ct.toNat ht.1 (by omega) (by omega) (by omega))]) d_Ce_holds_29
  exact L2 _ 0 ls (by omega) (rfl) (n_lt _) (lv_sub hl [0, 1, 2, 3] rfl)
set_option maxHeartbeats 4000000 in
set_option maxRecDepth 100000 in
theorem c_Ce_append (l : Launch) (D : va_G) (aC : Nat → ClassId) (a a1 a2 va vm ve n : Nat) (f1 f2 fm fe : Int → Int) (ct i j k q : Int) (hn : n < 2147483648) (hc : 0 ≤ ct ∧ ct < (n : Int)) (hk : -4294967296 < k ∧ k < 4294967296) (hq : -3 ≤ q ∧ q ≤ 0) : CT l D aC y_Ce_append (rd 1 33) [.ref a, .int (iI i), .int (iI j), .double (dM k q)] [(a, .inr (2, [.ref a1, .ref a2, .ref va, .int (iI ct)])), (a1, eI aC n f1), (a2, eI aC n f2), (va, .inr (0, [.ref vm, .ref ve])), (vm, eJ aC n fm), (ve, eI aC n fe)] (fun v w => v = some (.int (iI (ct + 1))) ∧ w = [(a, .inr (2, [.ref a1, .ref a2, .ref va, .int (iI (ct + 1))])), (a1, eI aC n (updI f1 ct i)), (a2, eI aC n (updI f2 ct j)), (va, .inr (0, [.ref vm, .ref ve])), (vm, eJ aC n (updI fm ct (k * 2 ^ nt k))), (ve, eI aC n (updI fe ct (nx k q 0)))]) := by
  refine CT.of (cc := b_Ce_append) (maxL := 6) (ret := (some .int)) (by decide +kernel) k_Ce_append (Nat.le_of_ble_eq_true rfl) ?_
  intro p e s m below meth c Q S hr hlocks hQ hK hN hP hD hS ls hl
  obtain ⟨hx, hb, hml, hown, hts⟩ := id S
  have hl : lv_has ls 6 [(0, .ref a), (1, .int (iI i)), (2, .int (iI j)), (3, .double (dM k q))] := hl
  refine lv_aload_n hx hb d_Ce_append_0 rfl (lv_at hl 0 rfl) ?_
  refine va_get (D := D) (ci := 2) (v := .int (iI ct)) (C := R_Ce) (T := F_Ce) (N := 4) hx hb hts i_Ce hown hK hP 0 rfl rfl 3 (by decide) (hts _ wf_Ce_31) (fun _ h9 => h9) rfl d_Ce_append_1 ?_
  refine lv_istore (lv' := [(5, .int (iI ct)), (0, .ref a), (1, .int (iI i)), (2, .int (iI j)), (3, .double (dM k q))]) hx hb d_Ce_append_4 hl (by decide) rfl (fun ls hl => ?_)
  refine lv_iload hx hb d_Ce_append_6 (lv_at hl 0 rfl) ?_
  refine x_if_lt (tgt := 68) hx hb d_Ce_append_8 (by decide) (by omega) (fun c_8 => (by exfalso; omega)) (fun c_8 => ?_)
  refine lv_iload hx hb d_Ce_append_11 (lv_at hl 0 rfl) ?_
  refine lv_aload_n hx hb d_Ce_append_13 rfl (lv_at hl 1 rfl) ?_
  refine va_get (D := D) (ci := 2) (v := .ref a1) (C := R_Ce) (T := F_Ce) (N := 4) hx hb hts i_Ce hown hK hP 0 rfl rfl 0 (by decide) (hts _ wf_Ce_13) (fun _ h9 => h9) rfl d_Ce_append_14 ?_
  refine x_alen hx hb hK hP 1 0 rfl rfl (n := n) rfl d_Ce_append_17 ?_
  refine x_icmp_ge (tgt := 68) hx hb d_Ce_append_18 (by decide) (by omega) (by omega) (fun c_18 => (by exfalso; omega)) (fun c_18 => ?_)
  refine lv_iload hx hb d_Ce_append_21 (lv_at hl 0 rfl) ?_
  refine lv_aload_n hx hb d_Ce_append_23 rfl (lv_at hl 1 rfl) ?_
  refine va_get (D := D) (ci := 2) (v := .ref a2) (C := R_Ce) (T := F_Ce) (N := 4) hx hb hts i_Ce hown hK hP 0 rfl rfl 1 (by decide) (hts _ wf_Ce_19) (fun _ h9 => h9) rfl d_Ce_append_24 ?_
  refine x_alen hx hb hK hP 2 0 rfl rfl (n := n) rfl d_Ce_append_27 ?_
  refine x_icmp_ge (tgt := 68) hx hb d_Ce_append_28 (by decide) (by omega) (by omega) (fun c_28 => (by exfalso; omega)) (fun c_28 => ?_)
  refine lv_aload_n hx hb d_Ce_append_31 rfl (lv_at hl 1 rfl) ?_
  refine va_get (D := D) (ci := 2) (v := .ref a1) (C := R_Ce) (T := F_Ce) (N := 4) hx hb hts i_Ce hown hK hP 0 rfl rfl 0 (by decide) (hts _ wf_Ce_13) (fun _ h9 => h9) rfl d_Ce_append_32 ?_
  refine lv_iload hx hb d_Ce_append_35 (lv_at hl 0 rfl) ?_
  refine lv_iload_n hx hb d_Ce_append_37 rfl (lv_at hl 2 rfl) ?_
  refine x_iast hx hb hK hP hD hS 1 rfl (by omega) (hn) d_Ce_append_38 (fun H locs hP hD hS => ?_)
  have hP : va_P D CL [(a, .inr (2, [.ref a1, .ref a2, .ref va, .int (iI ct)])), (a1, eI aC n (updI f1 ct i)), (a2, eI aC n f2), (va, .inr (0, [.ref vm, .ref ve])), (vm, eJ aC n fm), (ve, eI aC n fe)] H := hP
  have hD : va_D (aW [(a, .inr (2, [.ref a1, .ref a2, .ref va, .int (iI ct)])), (a1, eI aC n f1), (a2, eI aC n f2), (va, .inr (0, [.ref vm, .ref ve])), (vm, eJ aC n fm), (ve, eI aC n fe)]) [(a, .inr (2, [.ref a1, .ref a2, .ref va, .int (iI ct)])), (a1, eI aC n (updI f1 ct i)), (a2, eI aC n f2), (va, .inr (0, [.ref vm, .ref ve])), (vm, eJ aC n fm), (ve, eI aC n fe)] := hD
  refine lv_aload_n hx hb d_Ce_append_39 rfl (lv_at hl 1 rfl) ?_
  refine va_get (D := D) (ci := 2) (v := .ref a2) (C := R_Ce) (T := F_Ce) (N := 4) hx hb hts i_Ce hown hK hP 0 rfl rfl 1 (by decide) (hts _ wf_Ce_19) (fun _ h9 => h9) rfl d_Ce_append_40 ?_
  refine lv_iload hx hb d_Ce_append_43 (lv_at hl 0 rfl) ?_
  refine lv_iload_n hx hb d_Ce_append_45 rfl (lv_at hl 3 rfl) ?_
  refine x_iast hx hb hK hP hD hS 2 rfl (by omega) (hn) d_Ce_append_46 (fun H locs hP hD hS => ?_)
  have hP : va_P D CL [(a, .inr (2, [.ref a1, .ref a2, .ref va, .int (iI ct)])), (a1, eI aC n (updI f1 ct i)), (a2, eI aC n (updI f2 ct j)), (va, .inr (0, [.ref vm, .ref ve])), (vm, eJ aC n fm), (ve, eI aC n fe)] H := hP
  have hD : va_D (aW [(a, .inr (2, [.ref a1, .ref a2, .ref va, .int (iI ct)])), (a1, eI aC n f1), (a2, eI aC n f2), (va, .inr (0, [.ref vm, .ref ve])), (vm, eJ aC n fm), (ve, eI aC n fe)]) [(a, .inr (2, [.ref a1, .ref a2, .ref va, .int (iI ct)])), (a1, eI aC n (updI f1 ct i)), (a2, eI aC n (updI f2 ct j)), (va, .inr (0, [.ref vm, .ref ve])), (vm, eJ aC n fm), (ve, eI aC n fe)] := hD
  refine lv_aload_n hx hb d_Ce_append_47 rfl (lv_at hl 1 rfl) ?_
  refine va_get (D := D) (ci := 2) (v := .ref va) (C := R_Ce) (T := F_Ce) (N := 4) hx hb hts i_Ce hown hK hP 0 rfl rfl 2 (by decide) (hts _ wf_Ce_27) (fun _ h9 => h9) rfl d_Ce_append_48 ?_
  refine lv_iload hx hb d_Ce_append_51 (lv_at hl 0 rfl) ?_
  refine lv_dload_n hx hb d_Ce_append_53 rfl (lv_at hl 4 rfl) ?_
  refine lv_iconst (v := iI 0) hx hb d_Ce_append_54 rfl ?_
  refine x_callV0F S (c_Nu_put l D aC va vm ve n fm fe ct k q 0 (by omega) (hn) (by omega) (by omega) (by omega)) t_Ce_42 (rm_ok (by decide) (by decide)) hK hN hP hD hS [3, 4, 5] [] rfl rfl (fun w9 hw => by obtain rfl := hw; exact ⟨rfl, Nat.le_of_ble_eq_true rfl⟩) 0 0 rfl rfl rfl hl.1 rfl (Nat.le_of_ble_eq_true rfl) d_Ce_append_55 ⟨Nat.zero_le _, Nat.zero_le _⟩ (fun w1 ws1 H locs e9 hw hP hD hS => ?_)
  obtain rfl := hw
  have e9 : ws1 = [(a, .inr (2, [.ref a1, .ref a2, .ref va, .int (iI ct)])), (a1, eI aC n (updI f1 ct i)), (a2, eI aC n (updI f2 ct j)), (va, .inr (0, [.ref vm, .ref ve])), (vm, eJ aC n (updI fm ct (k * 2 ^ nt k))), (ve, eI aC n (updI fe ct (nx k q 0)))] := e9
  subst e9
  refine lv_aload_n hx hb d_Ce_append_58 rfl (lv_at hl 1 rfl) ?_
  refine lv_dup hx hb d_Ce_append_59 rfl ?_
  refine va_get (D := D) (ci := 2) (v := .int (iI ct)) (C := R_Ce) (T := F_Ce) (N := 4) hx hb hts i_Ce hown hK hP 0 rfl rfl 3 (by decide) (hts _ wf_Ce_31) (fun _ h9 => h9) rfl d_Ce_append_60 ?_
  refine lv_iconst (v := iI 1) hx hb d_Ce_append_63 rfl ?_
  refine x_iadd hx hb d_Ce_append_64 ?_
  refine va_put (D := D) (ci := 2) (v := .int (iI (ct + 1))) (ty := .int) (C := R_Ce) (T := F_Ce) (N := 4) hx hb hts i_Ce t_Ce t_Ce_ok n_Ce hown hK hP hD hS 0 rfl rfl 3 (by decide) (hts _ wf_Ce_31) (fun _ h9 => h9) rfl (by decide +kernel) rfl rfl (Nat.le_of_ble_eq_true rfl) d_Ce_append_65 (fun H locs hP hD hS => ?_)
  have hP : va_P D CL [(a, .inr (2, [.ref a1, .ref a2, .ref va, .int (iI (ct + 1))])), (a1, eI aC n (updI f1 ct i)), (a2, eI aC n (updI f2 ct j)), (va, .inr (0, [.ref vm, .ref ve])), (vm, eJ aC n (updI fm ct (k * 2 ^ nt k))), (ve, eI aC n (updI fe ct (nx k q 0)))] H := hP
  have hD : va_D (aW [(a, .inr (2, [.ref a1, .ref a2, .ref va, .int (iI ct)])), (a1, eI aC n f1), (a2, eI aC n f2), (va, .inr (0, [.ref vm, .ref ve])), (vm, eJ aC n fm), (ve, eI aC n fe)]) [(a, .inr (2, [.ref a1, .ref a2, .ref va, .int (iI (ct + 1))])), (a1, eI aC n (updI f1 ct i)), (a2, eI aC n (updI f2 ct j)), (va, .inr (0, [.ref vm, .ref ve])), (vm, eJ aC n (updI fm ct (k * 2 ^ nt k))), (ve, eI aC n (updI fe ct (nx k q 0)))] := hD
  refine lv_aload_n hx hb d_Ce_append_68 rfl (lv_at hl 1 rfl) ?_
  refine va_get (D := D) (ci := 2) (v := .int (iI (ct + 1))) (C := R_Ce) (T := F_Ce) (N := 4) hx hb hts i_Ce hown hK hP 0 rfl rfl 3 (by decide) (hts _ wf_Ce_31) (fun _ h9 => h9) rfl d_Ce_append_69 ?_
  exact x_iret hx hb hr hlocks hQ (⟨rfl, rfl⟩) rfl hP hS d_Ce_append_72
