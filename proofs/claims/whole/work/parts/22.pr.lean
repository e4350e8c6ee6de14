/-- a product of up to three given numbers: the digits, the sign, what they are together -/
def PrS (pd : Int → Int) (ng Z : Int) : Prop := (ng = 0 ∨ ng = 1) ∧ nrm 27 pd 6 ∧ (1 - 2 * ng) * dg 27 pd 6 = Z
theorem p27 : (2 : Int) ^ 27 = 134217728 := rfl
theorem pr_one {pd g : Int → Int} {ng : Int} (hng : ng = 0 ∨ ng = 1) (hg : ∀ j : Int, 0 ≤ j → j < ((6 : Nat) : Int) → g j = 0) (hp : pd = updI g 0 1) : PrS pd ng (1 - 2 * ng) := by
  subst hp
  refine ⟨hng, fun j h1 h2 => ?_, ?_⟩
  · by_cases hj : j = 0
    · rw [hj, updI_s, p27]; omega
    · rw [updI_n hj, hg j h1 h2, p27]; omega
  · rw [dg_upd (Int.le_refl 0) 6 (by decide), dg_zero 6 hg, hg 0 (by decide) (by decide)]
    show (1 - 2 * ng) * (0 + (1 - 0) * 1) = _
    omega
/-- the sums of the multiplication, digit by digit -/
theorem pr_step {R C S B d lo hi P w : Int} (h : R + (C + B * hi) * w = P * (lo + hi * 134217728)) (hS : S = d * lo + B * hi + C) :
    R + S % 134217728 * w + (S / 134217728 + d * hi) * (w * 134217728) = (P + d * w) * (lo + hi * 134217728) := by
  have e1 : S % 134217728 * w + S / 134217728 * (w * 134217728) = S * w := by
    have := emod_add_div S 134217728
    rw [← Int.mul_assoc, Int.mul_comm (S / 134217728) w, Int.mul_comm (S % 134217728) w, Int.mul_assoc, ← Int.mul_add, Int.mul_comm (S / 134217728) 134217728, this, Int.mul_comm]
  have e2 : S * w = d * lo * w + B * hi * w + C * w := by rw [hS, Int.add_mul, Int.add_mul]
  have e3 : (P + d * w) * (lo + hi * 134217728) = P * (lo + hi * 134217728) + (d * lo * w + d * hi * (w * 134217728)) := by
    rw [Int.add_mul, Int.mul_add (d * w), Int.mul_right_comm d w lo, ← Int.mul_assoc (d * w) hi, Int.mul_right_comm d w hi, Int.mul_assoc (d * hi) w]
  rw [e3, ← h, Int.add_mul, Int.add_mul C]
  omega
theorem sg_mul {ng m : Int} (h : ng = 0 ∨ ng = 1) : ((zP (ng ≠ zP (m < 0))) = 0 ∨ (zP (ng ≠ zP (m < 0))) = 1) ∧ (1 - 2 * zP (ng ≠ zP (m < 0))) * (m.natAbs : Int) = (1 - 2 * ng) * m := by
  by_cases hm : m < 0
  · rw [zP_t hm]
    rcases h with rfl | rfl
    · rw [zP_t (by decide)]; omega
    · rw [zP_f (by decide)]; omega
  · rw [zP_f hm]
    rcases h with rfl | rfl
    · rw [zP_f (by decide)]; omega
    · rw [zP_t (by decide)]; omega

set_option maxHeartbeats 4000000 in
set_option maxRecDepth 100000 in
theorem c_Pr_start (l : Launch) (D : va_G) (aC : Nat → ClassId) (a ad : Nat) (pd : Int → Int) (ex ng sg pw : Int) (hsg : sg = 0 ∨ sg = 1) : CT l D aC y_Pr_start (rd 1 24) [.ref a, .int (iI sg), .int (iI pw)] [(a, .inr (3, [.ref ad, .int (iI ex), .int (iI ng)])), (ad, eJ aC 6 pd)] (fun v w => v = some (.ref a) ∧ ∃ pd' : Int → Int, w = [(a, .inr (3, [.ref ad, .int (iI pw), .int (iI sg)])), (ad, eJ aC 6 pd')] ∧ PrS pd' sg (1 - 2 * sg)) := by
  refine CT.of (cc := b_Pr_start) (maxL := 3) (ret := (some (.object "CertificateDesk$Product"))) (by decide +kernel) k_Pr_start (Nat.le_of_ble_eq_true rfl) ?_
  intro p e s m below meth c Q S hr hlocks hQ hK hN hP hD hS ls hl
  obtain ⟨hx, hb, hml, hown, hts⟩ := id S
  have hl : lv_has ls 3 [(0, .ref a), (1, .int (iI sg)), (2, .int (iI pw))] := hl
  refine lv_aload_n hx hb d_Pr_start_0 rfl (lv_at hl 0 rfl) ?_
  refine va_get (D := D) (ci := 3) (v := .ref ad) (C := R_Pr) (T := F_Pr) (N := 3) hx hb hts i_Pr hown hK hP 0 rfl rfl 0 (by decide) (hts _ wf_Pr_9) (fun _ h9 => h9) rfl d_Pr_start_1 ?_
  refine lv_lconst (v := lI 0) hx hb d_Pr_start_4 (by decide +kernel) ?_
  refine x_callS0F S (c_fill l D aC ad 6 pd 0 (by decide)) t_Pr_13 (rm_ok (by decide) (by decide)) hK hN hP hD hS [1] [] rfl rfl (fun w9 hw => by obtain ⟨g1, rfl, hg1⟩ := hw; exact ⟨rfl, Nat.le_of_ble_eq_true rfl⟩) rfl hl.1 rfl (Nat.le_of_ble_eq_true rfl) d_Pr_start_5 ⟨Nat.zero_le _, Nat.zero_le _⟩ (fun w1 ws1 H locs e9 hw hP hD hS => ?_)
  obtain ⟨g1, rfl, hg1⟩ := hw
  have e9 : ws1 = [(a, .inr (3, [.ref ad, .int (iI ex), .int (iI ng)])), (ad, eJ aC 6 g1)] := e9
  subst e9
  refine lv_aload_n hx hb d_Pr_start_8 rfl (lv_at hl 0 rfl) ?_
  refine va_get (D := D) (ci := 3) (v := .ref ad) (C := R_Pr) (T := F_Pr) (N := 3) hx hb hts i_Pr hown hK hP 0 rfl rfl 0 (by decide) (hts _ wf_Pr_9) (fun _ h9 => h9) rfl d_Pr_start_9 ?_
  refine lv_iconst (v := iI 0) hx hb d_Pr_start_12 rfl ?_
  refine lv_lconst (v := lI 1) hx hb d_Pr_start_13 (by decide +kernel) ?_
  refine x_last hx hb hK hP hD hS 1 rfl (by omega) (by decide) d_Pr_start_14 (fun H locs hP hD hS => ?_)
  have hP : va_P D CL [(a, .inr (3, [.ref ad, .int (iI ex), .int (iI ng)])), (ad, eJ aC 6 (updI g1 0 1))] H := hP
  have hD : va_D (aW [(a, .inr (3, [.ref ad, .int (iI ex), .int (iI ng)])), (ad, eJ aC 6 pd)]) [(a, .inr (3, [.ref ad, .int (iI ex), .int (iI ng)])), (ad, eJ aC 6 (updI g1 0 1))] := hD
  refine lv_aload_n hx hb d_Pr_start_15 rfl (lv_at hl 0 rfl) ?_
  refine lv_iload_n hx hb d_Pr_start_16 rfl (lv_at hl 2 rfl) ?_
  refine va_put (D := D) (ci := 3) (v := .int (iI pw)) (ty := .int) (C := R_Pr) (T := F_Pr) (N := 3) hx hb hts i_Pr t_Pr t_Pr_ok n_Pr hown hK hP hD hS 0 rfl rfl 1 (by decide) (hts _ wf_Pr_19) (fun _ h9 => h9) rfl (by decide +kernel) rfl rfl (Nat.le_of_ble_eq_true rfl) d_Pr_start_17 (fun H locs hP hD hS => ?_)
  have hP : va_P D CL [(a, .inr (3, [.ref ad, .int (iI pw), .int (iI ng)])), (ad, eJ aC 6 (updI g1 0 1))] H := hP
  have hD : va_D (aW [(a, .inr (3, [.ref ad, .int (iI ex), .int (iI ng)])), (ad, eJ aC 6 pd)]) [(a, .inr (3, [.ref ad, .int (iI pw), .int (iI ng)])), (ad, eJ aC 6 (updI g1 0 1))] := hD
  refine lv_aload_n hx hb d_Pr_start_20 rfl (lv_at hl 0 rfl) ?_
  refine lv_iload_n hx hb d_Pr_start_21 rfl (lv_at hl 1 rfl) ?_
  refine va_put (D := D) (ci := 3) (v := .int (iI sg)) (ty := .boolean) (C := R_Pr) (T := F_Pr) (N := 3) hx hb hts i_Pr t_Pr t_Pr_ok n_Pr hown hK hP hD hS 0 rfl rfl 2 (by decide) (hts _ wf_Pr_23) (fun _ h9 => h9) rfl (by decide +kernel) (nar_z (by omega)) (fit_z (by omega)) (Nat.le_of_ble_eq_true rfl) d_Pr_start_22 (fun H locs hP hD hS => ?_)
  have hP : va_P D CL [(a, .inr (3, [.ref ad, .int (iI pw), .int (iI sg)])), (ad, eJ aC 6 (updI g1 0 1))] H := hP
  have hD : va_D (aW [(a, .inr (3, [.ref ad, .int (iI ex), .int (iI ng)])), (ad, eJ aC 6 pd)]) [(a, .inr (3, [.ref ad, .int (iI pw), .int (iI sg)])), (ad, eJ aC 6 (updI g1 0 1))] := hD
  refine lv_aload_n hx hb d_Pr_start_25 rfl (lv_at hl 0 rfl) ?_
  exact x_aret hx hb hr (Or.inl ⟨_, rfl⟩) hlocks hQ (⟨rfl, _, rfl, pr_one (by omega) hg1 rfl⟩) rfl hP hS d_Pr_start_26
theorem pr_loop {g pd : Int → Int} {t cy bf lo hi S : Int} (ht : 0 ≤ t ∧ t ≤ 6) (hg2 : ∀ j : Int, t ≤ j → j < 6 → g j = pd j) (h : dg 27 g t.toNat + (cy + bf * hi) * 2 ^ (27 * t.toNat) = dg 27 pd t.toNat * (lo + hi * 134217728)) (hS : S = g t * lo + bf * hi + cy) (h6 : t < 6 := by omega) :
    dg 27 (updI g t (S % 134217728)) (t + 1).toNat + (S / 134217728 + g t * hi) * 2 ^ (27 * (t + 1).toNat) = dg 27 pd (t + 1).toNat * (lo + hi * 134217728) := by
  have e1 : (t + 1).toNat = t.toNat + 1 := by omega
  have e2 : ((t.toNat : Nat) : Int) = t := by omega
  rw [e1]
  show dg 27 (updI g t (S % 134217728)) t.toNat + updI g t (S % 134217728) (t.toNat : Int) * 2 ^ (27 * t.toNat) + _ = (dg 27 pd t.toNat + pd (t.toNat : Int) * 2 ^ (27 * t.toNat)) * _
  rw [dg_out (by omega), e2, updI_s, ← hg2 t (by omega) h6, Nat.mul_succ, p2_add, p27]
  exact pr_step h hS
theorem mul_rng {x y X Y : Int} (h1 : 0 ≤ x) (h2 : x ≤ X) (h3 : 0 ≤ y) (h4 : y ≤ Y) : 0 ≤ x * y ∧ x * y ≤ X * Y := by
  refine ⟨Int.mul_nonneg h1 h3, ?_⟩
  calc x * y ≤ X * y := Int.mul_le_mul_of_nonneg_right h2 h3
    _ ≤ X * Y := Int.mul_le_mul_of_nonneg_left h4 (by omega)
theorem pr_end {g pd : Int → Int} {ng Z m cy bf t : Int} (hp : PrS pd ng Z) (hz : (Z * m).natAbs < 2 ^ 162) (hc : 0 ≤ cy) (hbf : 0 ≤ bf) (ht : t = 6) (hg1 : ∀ j : Int, 0 ≤ j → j < t → 0 ≤ g j ∧ g j < 134217728) {lo hi : Int} (hlo : (m.natAbs : Int) % 134217728 = lo) (hhi : (m.natAbs : Int) / 134217728 = hi) (h : dg 27 g t.toNat + (cy + bf * hi) * 2 ^ (27 * t.toNat) = dg 27 pd t.toNat * (lo + hi * 134217728)) : PrS g (zP (ng ≠ zP (m < 0))) (Z * m) := by
  subst ht
  subst hlo hhi
  obtain ⟨h1, h2, h3⟩ := hp
  have hgn : nrm 27 g 6 := fun j a b => by rw [p27]; exact hg1 j a b
  obtain ⟨r1, r2⟩ := dg_range 6 hgn
  obtain ⟨r3, r4⟩ := dg_range 6 h2
  have e0 : (m.natAbs : Int) % 134217728 + (m.natAbs : Int) / 134217728 * 134217728 = (m.natAbs : Int) := by omega
  rw [e0] at h
  change dg 27 g 6 + _ * 2 ^ (27 * 6) = dg 27 pd 6 * _ at h
  have e1 : dg 27 pd 6 * (m.natAbs : Int) = ((Z * m).natAbs : Int) := by
    rw [Int.natAbs_mul, ← h3, Int.natAbs_mul]
    have : ((1 - 2 * ng).natAbs : Int) = 1 := by rcases h1 with rfl | rfl <;> rfl
    rw [Int.natCast_mul, Int.natCast_mul, this, Int.one_mul, Int.natAbs_of_nonneg r3]
  have hq : 0 ≤ (m.natAbs : Int) / 134217728 := by omega
  have hX := Int.mul_nonneg hbf hq
  have hX1 : 0 ≤ cy + bf * ((m.natAbs : Int) / 134217728) := by omega
  generalize cy + bf * ((m.natAbs : Int) / 134217728) = X at h hX1
  have hz2 : ((Z * m).natAbs : Int) < 2 ^ 162 := by
    have := p2_nat 162
    omega
  have hX0 : X = 0 := by
    rcases (show X ≤ 0 ∨ 1 ≤ X by omega) with q | q
    · omega
    · have := Int.mul_le_mul_of_nonneg_right q (Int.le_of_lt (p2_pos (27 * 6)))
      have e162 : (2 : Int) ^ (27 * 6) = 2 ^ 162 := rfl
      omega
  rw [hX0, Int.zero_mul, Int.add_zero] at h
  obtain ⟨s1, s2⟩ := sg_mul (m := m) h1
  refine ⟨s1, hgn, ?_⟩
  rw [h, Int.mul_left_comm, s2, ← h3, ← Int.mul_assoc, Int.mul_comm (dg 27 pd 6)]
set_option maxHeartbeats 4000000 in
set_option maxRecDepth 100000 in
theorem c_Pr_times (l : Launch) (D : va_G) (aC : Nat → ClassId) (a ad b bm be n : Nat) (pd fm fe : Int → Int) (ex ng i Z : Int) (hi : 0 ≤ i ∧ i < (n : Int)) (hn : n < 2147483648) (hp : PrS pd ng Z) (hm : -9007199254740992 < fm i ∧ fm i < 9007199254740992) (hz : (Z * fm i).natAbs < 2 ^ 162) : CT l D aC y_Pr_times (rd 1 21) [.ref a, .ref b, .int (iI i)] [(a, .inr (3, [.ref ad, .int (iI ex), .int (iI ng)])), (ad, eJ aC 6 pd), (b, .inr (0, [.ref bm, .ref be])), (bm, eJ aC n fm), (be, eI aC n fe)] (fun v w => v = some (.ref a) ∧ ∃ pd' : Int → Int, w = [(a, .inr (3, [.ref ad, .int (iI (ex + fe i)), .int (iI (zP (ng ≠ zP (fm i < 0))))])), (ad, eJ aC 6 pd'), (b, .inr (0, [.ref bm, .ref be])), (bm, eJ aC n fm), (be, eI aC n fe)] ∧ PrS pd' (zP (ng ≠ zP (fm i < 0))) (Z * fm i)) := by
  refine CT.of (cc := b_Pr_times) (maxL := 20) (ret := (some (.object "CertificateDesk$Product"))) (by decide +kernel) k_Pr_times (Nat.le_of_ble_eq_true rfl) ?_
  intro p e s m below meth c Q S hr hlocks hQ hK hN hP hD hS ls hl
  obtain ⟨hx, hb, hml, hown, hts⟩ := id S
  have hl : lv_has ls 20 [(0, .ref a), (1, .ref b), (2, .int (iI i))] := hl
  refine lv_aload_n hx hb d_Pr_times_0 rfl (lv_at hl 1 rfl) ?_
  refine lv_iload_n hx hb d_Pr_times_1 rfl (lv_at hl 2 rfl) ?_
  refine y_callV1 (V := .long (lI (fm i))) S (c_Nu_mantissa l D aC b bm be n fm fe i (hi) (hn)) t_Pr_27 (rm_ok (by decide) (by decide)) hK hN hP [2, 3, 4] rfl 0 0 rfl rfl rfl hl.1 rfl (Nat.le_of_ble_eq_true rfl) d_Pr_times_2 ⟨Nat.zero_le _, Nat.zero_le _⟩ ?_
  refine lv_lstore_n (lv' := [(3, .long (lI (fm i))), (0, .ref a), (1, .ref b), (2, .int (iI i))]) hx hb d_Pr_times_5 rfl hl (by decide) rfl (fun ls hl => ?_)
  refine lv_lload_n hx hb d_Pr_times_6 rfl (lv_at hl 0 rfl) ?_
  refine y_callS1 (V := .long (lI ((fm i).natAbs : Int))) S (c_absJ l D aC (fm i) (by omega)) t_Pr_33 (rm_ok (by decide) (by decide)) hK hN hP [] rfl rfl hl.1 rfl (Nat.le_of_ble_eq_true rfl) d_Pr_times_7 ⟨Nat.zero_le _, Nat.zero_le _⟩ ?_
  refine lv_lstore (lv' := [(5, .long (lI ((fm i).natAbs : Int))), (3, .long (lI (fm i))), (0, .ref a), (1, .ref b), (2, .int (iI i))]) hx hb d_Pr_times_10 hl (by decide) rfl (fun ls hl => ?_)
  refine lv_lload hx hb d_Pr_times_12 (lv_at hl 0 rfl) ?_
  refine x_ldc2 hx hb 134217727 (by decide +kernel) hown (hts _ wk_Pr_41) d_Pr_times_14 ?_
  refine x_land (v := (((fm i).natAbs : Int) % 134217728)) hx hb d_Pr_times_17 (lI_m27 _) ?_
  obtain ⟨lo2, hlo⟩ : ∃ z : Int, ((fm i).natAbs : Int) % 134217728 = z := ⟨_, rfl⟩
  refine x_topl _ lo2 hlo ?_
  refine lv_lstore (lv' := [(7, .long (lI lo2)), (5, .long (lI ((fm i).natAbs : Int))), (3, .long (lI (fm i))), (0, .ref a), (1, .ref b), (2, .int (iI i))]) hx hb d_Pr_times_18 hl (by decide) rfl (fun ls hl => ?_)
  refine lv_lload hx hb d_Pr_times_20 (lv_at hl 1 rfl) ?_
  refine lv_bipush (v := iI 27) hx hb d_Pr_times_22 (by decide +kernel) ?_
  refine x_lushr hx hb d_Pr_times_24 (by omega) (by omega) ?_
  refine x_topl _ (((fm i).natAbs : Int) / 134217728) rfl ?_
  obtain ⟨hi2, hhi⟩ : ∃ z : Int, ((fm i).natAbs : Int) / 134217728 = z := ⟨_, rfl⟩
  refine x_topl _ hi2 hhi ?_
  refine lv_lstore (lv' := [(9, .long (lI hi2)), (7, .long (lI lo2)), (5, .long (lI ((fm i).natAbs : Int))), (3, .long (lI (fm i))), (0, .ref a), (1, .ref b), (2, .int (iI i))]) hx hb d_Pr_times_25 hl (by decide) rfl (fun ls hl => ?_)
  refine lv_lconst (v := lI 0) hx hb d_Pr_times_27 (by decide +kernel) ?_
  refine lv_lstore (lv' := [(11, .long (lI 0)), (9, .long (lI hi2)), (7, .long (lI lo2)), (5, .long (lI ((fm i).natAbs : Int))), (3, .long (lI (fm i))), (0, .ref a), (1, .ref b), (2, .int (iI i))]) hx hb d_Pr_times_28 hl (by decide) rfl (fun ls hl => ?_)
  refine lv_lconst (v := lI 0) hx hb d_Pr_times_30 (by decide +kernel) ?_
  refine lv_lstore (lv' := [(13, .long (lI 0)), (11, .long (lI 0)), (9, .long (lI hi2)), (7, .long (lI lo2)), (5, .long (lI ((fm i).natAbs : Int))), (3, .long (lI (fm i))), (0, .ref a), (1, .ref b), (2, .int (iI i))]) hx hb d_Pr_times_31 hl (by decide) rfl (fun ls hl => ?_)
  refine lv_iconst (v := iI 0) hx hb d_Pr_times_33 rfl ?_
  refine lv_istore (lv' := [(15, .int (iI 0)), (13, .long (lI 0)), (11, .long (lI 0)), (9, .long (lI hi2)), (7, .long (lI lo2)), (5, .long (lI ((fm i).natAbs : Int))), (3, .long (lI (fm i))), (0, .ref a), (1, .ref b), (2, .int (iI i))]) hx hb d_Pr_times_34 hl (by decide) rfl (fun ls hl => ?_)
  have L36 : ∀ (nn : Nat) (t : Int) (cy : Int) (bf : Int) (g : Int → Int) (H : Heap) (locs : List Loc) (ls : Array Slot), (0 ≤ t ∧ t ≤ 6) → (0 ≤ cy ∧ cy < 268435456) → (0 ≤ bf ∧ bf < 134217728) → (∀ j : Int, 0 ≤ j → j < t → 0 ≤ g j ∧ g j < 134217728) → (∀ j : Int, t ≤ j → j < 6 → g j = pd j) → (dg 27 g t.toNat + (cy + bf * hi2) * 2 ^ (27 * t.toNat) = dg 27 pd t.toNat * (lo2 + hi2 * 134217728)) → 6 - t < (nn : Int) → va_P D CL [(a, .inr (3, [.ref ad, .int (iI ex), .int (iI ng)])), (ad, eJ aC 6 g), (b, .inr (0, [.ref bm, .ref be])), (bm, eJ aC n fm), (be, eI aC n fe)] H → va_D (aW [(a, .inr (3, [.ref ad, .int (iI ex), .int (iI ng)])), (ad, eJ aC 6 pd), (b, .inr (0, [.ref bm, .ref be])), (bm, eJ aC n fm), (be, eI aC n fe)]) [(a, .inr (3, [.ref ad, .int (iI ex), .int (iI ng)])), (ad, eJ aC 6 g), (b, .inr (0, [.ref bm, .ref be])), (bm, eJ aC n fm), (be, eI aC n fe)] → va_S (aW [(a, .inr (3, [.ref ad, .int (iI ex), .int (iI ng)])), (ad, eJ aC 6 pd), (b, .inr (0, [.ref bm, .ref be])), (bm, eJ aC n fm), (be, eI aC n fe)]) s.heap H locs → lv_has ls 20 [(15, .int (iI t)), (13, .long (lI bf)), (11, .long (lI cy)), (9, .long (lI hi2)), (7, .long (lI lo2)), (3, .long (lI (fm i))), (0, .ref a), (1, .ref b), (2, .int (iI i))] → W p l e (rd 1 21) s m ([.ref a, .ref b, .int (iI i)]).toArray below meth c H locs 0 0 Q (F0 m 36 ls []) := by
    intro nn
    induction nn with
    | zero => intro t cy bf g H locs ls ht hc hbf hg1 hg2 hsum hnn; exact absurd hnn (by omega)
    | succ nn ih =>
      intro t cy bf g H locs ls ht hc hbf hg1 hg2 hsum hnn hP hD hS hl
      refine lv_iload hx hb d_Pr_times_36 (lv_at hl 0 rfl) ?_
      refine lv_bipush (v := iI 6) hx hb d_Pr_times_38 (by decide +kernel) ?_
      refine x_icmp_ge (tgt := 98) hx hb d_Pr_times_40 (by decide) (by omega) (by omega) (fun c_40 => ?_) (fun c_40 => ?_)
      · refine lv_aload_n hx hb d_Pr_times_98 rfl (lv_at hl 6 rfl) ?_
        refine lv_dup hx hb d_Pr_times_99 rfl ?_
        refine va_get (D := D) (ci := 3) (v := .int (iI ex)) (C := R_Pr) (T := F_Pr) (N := 3) hx hb hts i_Pr hown hK hP 0 rfl rfl 1 (by decide) (hts _ wf_Pr_19) (fun _ h9 => h9) rfl d_Pr_times_100 ?_
        refine lv_aload_n hx hb d_Pr_times_103 rfl (lv_at hl 7 rfl) ?_
        refine lv_iload_n hx hb d_Pr_times_104 rfl (lv_at hl 8 rfl) ?_
        refine y_callV1 (V := .int (iI (fe i))) S (c_Nu_exponent l D aC b bm be n fm fe i (hi) (hn)) t_Pr_43 (rm_ok (by decide) (by decide)) hK hN hP [2, 3, 4] rfl 0 0 rfl rfl rfl hl.1 rfl (Nat.le_of_ble_eq_true rfl) d_Pr_times_105 ⟨Nat.zero_le _, Nat.zero_le _⟩ ?_
        refine x_iadd hx hb d_Pr_times_108 ?_
        refine va_put (D := D) (ci := 3) (v := .int (iI (ex + (fe i)))) (ty := .int) (C := R_Pr) (T := F_Pr) (N := 3) hx hb hts i_Pr t_Pr t_Pr_ok n_Pr hown hK hP hD hS 0 rfl rfl 1 (by decide) (hts _ wf_Pr_19) (fun _ h9 => h9) rfl (by decide +kernel) rfl rfl (Nat.le_of_ble_eq_true rfl) d_Pr_times_109 (fun H locs hP hD hS => ?_)
        have hP : va_P D CL [(a, .inr (3, [.ref ad, .int (iI (ex + (fe i))), .int (iI ng)])), (ad, eJ aC 6 g), (b, .inr (0, [.ref bm, .ref be])), (bm, eJ aC n fm), (be, eI aC n fe)] H := hP
        have hD : va_D (aW [(a, .inr (3, [.ref ad, .int (iI ex), .int (iI ng)])), (ad, eJ aC 6 pd), (b, .inr (0, [.ref bm, .ref be])), (bm, eJ aC n fm), (be, eI aC n fe)]) [(a, .inr (3, [.ref ad, .int (iI (ex + (fe i))), .int (iI ng)])), (ad, eJ aC 6 g), (b, .inr (0, [.ref bm, .ref be])), (bm, eJ aC n fm), (be, eI aC n fe)] := hD
        refine lv_aload_n hx hb d_Pr_times_112 rfl (lv_at hl 6 rfl) ?_
        refine lv_aload_n hx hb d_Pr_times_113 rfl (lv_at hl 6 rfl) ?_
        refine va_get (D := D) (ci := 3) (v := .int (iI ng)) (C := R_Pr) (T := F_Pr) (N := 3) hx hb hts i_Pr hown hK hP 0 rfl rfl 2 (by decide) (hts _ wf_Pr_23) (fun _ h9 => h9) rfl d_Pr_times_114 ?_
        refine lv_lload_n hx hb d_Pr_times_117 rfl (lv_at hl 5 rfl) ?_
        refine lv_lconst (v := lI 0) hx hb d_Pr_times_118 (by decide +kernel) ?_
        refine x_lcmp_ge (tgt := 127) hx hb d_Pr_times_119 d_Pr_times_120 (by decide) (by omega) (by omega) (fun c_119 => ?_) (fun c_119 => ?_)
        · refine lv_iconst (v := iI 0) hx hb d_Pr_times_127 rfl ?_
          refine x_top 0 (zP (fm i < 0)) ((zP_f (by omega)).symm) ?_
          refine x_icmp_eq (tgt := 135) hx hb d_Pr_times_128 (by decide) (by have := hp.1; omega) (by have := zP_01 (fm i < 0); omega) (fun c_128 => ?_) (fun c_128 => ?_)
          · refine lv_iconst (v := iI 0) hx hb d_Pr_times_135 rfl ?_
            refine x_top 0 (zP (ng ≠ zP (fm i < 0))) ((zP_f (fun q => q c_128)).symm) ?_
            refine va_put (D := D) (ci := 3) (v := .int (iI (zP (ng ≠ zP (fm i < 0))))) (ty := .boolean) (C := R_Pr) (T := F_Pr) (N := 3) hx hb hts i_Pr t_Pr t_Pr_ok n_Pr hown hK hP hD hS 0 rfl rfl 2 (by decide) (hts _ wf_Pr_23) (fun _ h9 => h9) rfl (by decide +kernel) (nar_z (by have := zP_01 (ng ≠ zP (fm i < 0)); omega)) (fit_z (by have := zP_01 (ng ≠ zP (fm i < 0)); omega)) (Nat.le_of_ble_eq_true rfl) d_Pr_times_136 (fun H locs hP hD hS => ?_)
            have hP : va_P D CL [(a, .inr (3, [.ref ad, .int (iI (ex + (fe i))), .int (iI (zP (ng ≠ zP (fm i < 0))))])), (ad, eJ aC 6 g), (b, .inr (0, [.ref bm, .ref be])), (bm, eJ aC n fm), (be, eI aC n fe)] H := hP
            have hD : va_D (aW [(a, .inr (3, [.ref ad, .int (iI ex), .int (iI ng)])), (ad, eJ aC 6 pd), (b, .inr (0, [.ref bm, .ref be])), (bm, eJ aC n fm), (be, eI aC n fe)]) [(a, .inr (3, [.ref ad, .int (iI (ex + (fe i))), .int (iI (zP (ng ≠ zP (fm i < 0))))])), (ad, eJ aC 6 g), (b, .inr (0, [.ref bm, .ref be])), (bm, eJ aC n fm), (be, eI aC n fe)] := hD
            refine lv_aload_n hx hb d_Pr_times_139 rfl (lv_at hl 6 rfl) ?_
            exact x_aret hx hb hr (Or.inl ⟨_, rfl⟩) hlocks hQ (⟨rfl, g, rfl, pr_end hp hz hc.1 hbf.1 (by omega) hg1 hlo hhi hsum⟩) rfl hP hS d_Pr_times_140
          · refine lv_iconst (v := iI 1) hx hb d_Pr_times_131 rfl ?_
            refine lv_goto (tgt := 136) hx hb d_Pr_times_132 (by decide) ?_
            refine x_top 1 (zP (ng ≠ zP (fm i < 0))) ((zP_t c_128).symm) ?_
            refine va_put (D := D) (ci := 3) (v := .int (iI (zP (ng ≠ zP (fm i < 0))))) (ty := .boolean) (C := R_Pr) (T := F_Pr) (N := 3) hx hb hts i_Pr t_Pr t_Pr_ok n_Pr hown hK hP hD hS 0 rfl rfl 2 (by decide) (hts _ wf_Pr_23) (fun _ h9 => h9) rfl (by decide +kernel) (nar_z (by have := zP_01 (ng ≠ zP (fm i < 0)); omega)) (fit_z (by have := zP_01 (ng ≠ zP (fm i < 0)); omega)) (Nat.le_of_ble_eq_true rfl) d_Pr_times_136 (fun H locs hP hD hS => ?_)
            have hP : va_P D CL [(a, .inr (3, [.ref ad, .int (iI (ex + (fe i))), .int (iI (zP (ng ≠ zP (fm i < 0))))])), (ad, eJ aC 6 g), (b, .inr (0, [.ref bm, .ref be])), (bm, eJ aC n fm), (be, eI aC n fe)] H := hP
            have hD : va_D (aW [(a, .inr (3, [.ref ad, .int (iI ex), .int (iI ng)])), (ad, eJ aC 6 pd), (b, .inr (0, [.ref bm, .ref be])), (bm, eJ aC n fm), (be, eI aC n fe)]) [(a, .inr (3, [.ref ad, .int (iI (ex + (fe i))), .int (iI (zP (ng ≠ zP (fm i < 0))))])), (ad, eJ aC 6 g), (b, .inr (0, [.ref bm, .ref be])), (bm, eJ aC n fm), (be, eI aC n fe)] := hD
            refine lv_aload_n hx hb d_Pr_times_139 rfl (lv_at hl 6 rfl) ?_
            exact x_aret hx hb hr (Or.inl ⟨_, rfl⟩) hlocks hQ (⟨rfl, g, rfl, pr_end hp hz hc.1 hbf.1 (by omega) hg1 hlo hhi hsum⟩) rfl hP hS d_Pr_times_140
        · refine lv_iconst (v := iI 1) hx hb d_Pr_times_123 rfl ?_
          refine lv_goto (tgt := 128) hx hb d_Pr_times_124 (by decide) ?_
          refine x_top 1 (zP (fm i < 0)) ((zP_t (by omega)).symm) ?_
          refine x_icmp_eq (tgt := 135) hx hb d_Pr_times_128 (by decide) (by have := hp.1; omega) (by have := zP_01 (fm i < 0); omega) (fun c_128 => ?_) (fun c_128 => ?_)
          · refine lv_iconst (v := iI 0) hx hb d_Pr_times_135 rfl ?_
            refine x_top 0 (zP (ng ≠ zP (fm i < 0))) ((zP_f (fun q => q c_128)).symm) ?_
            refine va_put (D := D) (ci := 3) (v := .int (iI (zP (ng ≠ zP (fm i < 0))))) (ty := .boolean) (C := R_Pr) (T := F_Pr) (N := 3) hx hb hts i_Pr t_Pr t_Pr_ok n_Pr hown hK hP hD hS 0 rfl rfl 2 (by decide) (hts _ wf_Pr_23) (fun _ h9 => h9) rfl (by decide +kernel) (nar_z (by have := zP_01 (ng ≠ zP (fm i < 0)); omega)) (fit_z (by have := zP_01 (ng ≠ zP (fm i < 0)); omega)) (Nat.le_of_ble_eq_true rfl) d_Pr_times_136 (fun H locs hP hD hS => ?_)
            have hP : va_P D CL [(a, .inr (3, [.ref ad, .int (iI (ex + (fe i))), .int (iI (zP (ng ≠ zP (fm i < 0))))])), (ad, eJ aC 6 g), (b, .inr (0, [.ref bm, .ref be])), (bm, eJ aC n fm), (be, eI aC n fe)] H := hP
            have hD : va_D (aW [(a, .inr (3, [.ref ad, .int (iI ex), .int (iI ng)])), (ad, eJ aC 6 pd), (b, .inr (0, [.ref bm, .ref be])), (bm, eJ aC n fm), (be, eI aC n fe)]) [(a, .inr (3, [.ref ad, .int (iI (ex + (fe i))), .int (iI (zP (ng ≠ zP (fm i < 0))))])), (ad, eJ aC 6 g), (b, .inr (0, [.ref bm, .ref be])), (bm, eJ aC n fm), (be, eI aC n fe)] := hD
            refine lv_aload_n hx hb d_Pr_times_139 rfl (lv_at hl 6 rfl) ?_
            exact x_aret hx hb hr (Or.inl ⟨_, rfl⟩) hlocks hQ (⟨rfl, g, rfl, pr_end hp hz hc.1 hbf.1 (by omega) hg1 hlo hhi hsum⟩) rfl hP hS d_Pr_times_140
          · refine lv_iconst (v := iI 1) hx hb d_Pr_times_131 rfl ?_
            refine lv_goto (tgt := 136) hx hb d_Pr_times_132 (by decide) ?_
            refine x_top 1 (zP (ng ≠ zP (fm i < 0))) ((zP_t c_128).symm) ?_
            refine va_put (D := D) (ci := 3) (v := .int (iI (zP (ng ≠ zP (fm i < 0))))) (ty := .boolean) (C := R_Pr) (T := F_Pr) (N := 3) hx hb hts i_Pr t_Pr t_Pr_ok n_Pr hown hK hP hD hS 0 rfl rfl 2 (by decide) (hts _ wf_Pr_23) (fun _ h9 => h9) rfl (by decide +kernel) (nar_z (by have := zP_01 (ng ≠ zP (fm i < 0)); omega)) (fit_z (by have := zP_01 (ng ≠ zP (fm i < 0)); omega)) (Nat.le_of_ble_eq_true rfl) d_Pr_times_136 (fun H locs hP hD hS => ?_)
            have hP : va_P D CL [(a, .inr (3, [.ref ad, .int (iI (ex + (fe i))), .int (iI (zP (ng ≠ zP (fm i < 0))))])), (ad, eJ aC 6 g), (b, .inr (0, [.ref bm, .ref be])), (bm, eJ aC n fm), (be, eI aC n fe)] H := hP
            have hD : va_D (aW [(a, .inr (3, [.ref ad, .int (iI ex), .int (iI ng)])), (ad, eJ aC 6 pd), (b, .inr (0, [.ref bm, .ref be])), (bm, eJ aC n fm), (be, eI aC n fe)]) [(a, .inr (3, [.ref ad, .int (iI (ex + (fe i))), .int (iI (zP (ng ≠ zP (fm i < 0))))])), (ad, eJ aC 6 g), (b, .inr (0, [.ref bm, .ref be])), (bm, eJ aC n fm), (be, eI aC n fe)] := hD
            refine lv_aload_n hx hb d_Pr_times_139 rfl (lv_at hl 6 rfl) ?_
            exact x_aret hx hb hr (Or.inl ⟨_, rfl⟩) hlocks hQ (⟨rfl, g, rfl, pr_end hp hz hc.1 hbf.1 (by omega) hg1 hlo hhi hsum⟩) rfl hP hS d_Pr_times_140
      · refine lv_aload_n hx hb d_Pr_times_43 rfl (lv_at hl 6 rfl) ?_
        refine va_get (D := D) (ci := 3) (v := .ref ad) (C := R_Pr) (T := F_Pr) (N := 3) hx hb hts i_Pr hown hK hP 0 rfl rfl 0 (by decide) (hts _ wf_Pr_9) (fun _ h9 => h9) rfl d_Pr_times_44 ?_
        refine lv_iload hx hb d_Pr_times_47 (lv_at hl 0 rfl) ?_
        refine x_lald hx hb hK hP 1 rfl (by omega) (by decide) d_Pr_times_49 ?_
        refine lv_lstore (lv' := [(16, .long (lI (g t))), (15, .int (iI t)), (13, .long (lI bf)), (11, .long (lI cy)), (9, .long (lI hi2)), (7, .long (lI lo2)), (3, .long (lI (fm i))), (0, .ref a), (1, .ref b), (2, .int (iI i))]) hx hb d_Pr_times_50 hl (by decide) rfl (fun ls hl => ?_)
        have hgt := hg2 t (by omega) (by omega)
        have hpt := hp.2.1 t (by omega) (by omega)
        rw [p27] at hpt
        have hb1 : 0 ≤ g t * lo2 ∧ g t * lo2 ≤ 134217727 * 134217727 := mul_rng (by omega) (by omega) (by omega) (by omega)
        have hb2 : 0 ≤ bf * hi2 ∧ bf * hi2 ≤ 134217727 * 67108863 := mul_rng (by omega) (by omega) (by omega) (by omega)
        refine lv_lload hx hb d_Pr_times_52 (lv_at hl 0 rfl) ?_
        refine lv_lload hx hb d_Pr_times_54 (lv_at hl 5 rfl) ?_
        refine x_lmul hx hb d_Pr_times_56 ?_
        refine lv_lload hx hb d_Pr_times_57 (lv_at hl 2 rfl) ?_
        refine lv_lload hx hb d_Pr_times_59 (lv_at hl 4 rfl) ?_
        refine x_lmul hx hb d_Pr_times_61 ?_
        refine x_ladd hx hb d_Pr_times_62 ?_
        refine lv_lload hx hb d_Pr_times_63 (lv_at hl 3 rfl) ?_
        refine x_ladd hx hb d_Pr_times_65 ?_
        obtain ⟨S2, hSd⟩ : ∃ z : Int, (((g t) * lo2) + (bf * hi2)) + cy = z := ⟨_, rfl⟩
        refine x_topl _ S2 hSd ?_
        have hS2 : 0 ≤ S2 ∧ S2 < 36028797018963968 := by omega
        refine lv_lstore (lv' := [(18, .long (lI S2)), (16, .long (lI (g t))), (15, .int (iI t)), (13, .long (lI bf)), (11, .long (lI cy)), (9, .long (lI hi2)), (7, .long (lI lo2)), (3, .long (lI (fm i))), (0, .ref a), (1, .ref b), (2, .int (iI i))]) hx hb d_Pr_times_66 hl (by decide) rfl (fun ls hl => ?_)
        refine lv_aload_n hx hb d_Pr_times_68 rfl (lv_at hl 8 rfl) ?_
        refine va_get (D := D) (ci := 3) (v := .ref ad) (C := R_Pr) (T := F_Pr) (N := 3) hx hb hts i_Pr hown hK hP 0 rfl rfl 0 (by decide) (hts _ wf_Pr_9) (fun _ h9 => h9) rfl d_Pr_times_69 ?_
        refine lv_iload hx hb d_Pr_times_72 (lv_at hl 2 rfl) ?_
        refine lv_lload hx hb d_Pr_times_74 (lv_at hl 0 rfl) ?_
        refine x_ldc2 hx hb 134217727 (by decide +kernel) hown (hts _ wk_Pr_41) d_Pr_times_76 ?_
        refine x_land (v := (S2 % 134217728)) hx hb d_Pr_times_79 (lI_m27 _) ?_
        refine x_last hx hb hK hP hD hS 1 rfl (by omega) (by decide) d_Pr_times_80 (fun H locs hP hD hS => ?_)
        have hP : va_P D CL [(a, .inr (3, [.ref ad, .int (iI ex), .int (iI ng)])), (ad, eJ aC 6 (updI g t (S2 % 134217728))), (b, .inr (0, [.ref bm, .ref be])), (bm, eJ aC n fm), (be, eI aC n fe)] H := hP
        have hD : va_D (aW [(a, .inr (3, [.ref ad, .int (iI ex), .int (iI ng)])), (ad, eJ aC 6 pd), (b, .inr (0, [.ref bm, .ref be])), (bm, eJ aC n fm), (be, eI aC n fe)]) [(a, .inr (3, [.ref ad, .int (iI ex), .int (iI ng)])), (ad, eJ aC 6 (updI g t (S2 % 134217728))), (b, .inr (0, [.ref bm, .ref be])), (bm, eJ aC n fm), (be, eI aC n fe)] := hD
        refine lv_lload hx hb d_Pr_times_81 (lv_at hl 0 rfl) ?_
        refine lv_bipush (v := iI 27) hx hb d_Pr_times_83 (by decide +kernel) ?_
        refine x_lushr hx hb d_Pr_times_85 (by omega) (by omega) ?_
        refine x_topl _ (S2 / 134217728) rfl ?_
        refine lv_lstore (lv' := [(11, .long (lI (S2 / 134217728))), (18, .long (lI S2)), (16, .long (lI (g t))), (15, .int (iI t)), (13, .long (lI bf)), (9, .long (lI hi2)), (7, .long (lI lo2)), (3, .long (lI (fm i))), (0, .ref a), (1, .ref b), (2, .int (iI i))]) hx hb d_Pr_times_86 hl (by decide) rfl (fun ls hl => ?_)
        refine lv_lload hx hb d_Pr_times_88 (lv_at hl 2 rfl) ?_
        refine lv_lstore (lv' := [(13, .long (lI (g t))), (11, .long (lI (S2 / 134217728))), (18, .long (lI S2)), (16, .long (lI (g t))), (15, .int (iI t)), (9, .long (lI hi2)), (7, .long (lI lo2)), (3, .long (lI (fm i))), (0, .ref a), (1, .ref b), (2, .int (iI i))]) hx hb d_Pr_times_90 hl (by decide) rfl (fun ls hl => ?_)
        refine lv_iinc (v := iI (t + 1)) (lv' := [(15, .int (iI (t + 1))), (13, .long (lI (g t))), (11, .long (lI (S2 / 134217728))), (18, .long (lI S2)), (16, .long (lI (g t))), (9, .long (lI hi2)), (7, .long (lI lo2)), (3, .long (lI (fm i))), (0, .ref a), (1, .ref b), (2, .int (iI i))]) hx hb d_Pr_times_92 hl (k := 4) rfl (iI_add _ _) (by decide) rfl (fun ls hl => ?_)
        refine lv_goto (tgt := 36) hx hb d_Pr_times_95 (by decide) ?_
        exact ih (t + 1) (S2 / 134217728) (g t) (updI g t (S2 % 134217728)) _ _ ls (by omega) (by omega) (by omega) (fun j h1 h2 => by
          by_cases hj : j = t
          · rw [hj, updI_s]; omega
          · rw [updI_n hj]; exact hg1 j h1 (by omega)) (fun j h1 h2 => by rw [updI_n (by omega)]; exact hg2 j (by omega) h2) (pr_loop ht hg2 hsum hSd.symm) (by omega) hP hD hS (lv_sub hl [0, 1, 2, 5, 6, 7, 8, 9, 10] rfl)
  exact L36 _ 0 0 0 pd _ _ ls (by omega) (by omega) (by omega) (fun j h1 h2 => by omega) (fun j h1 h2 => rfl) (by simp [dg]) (n_lt _) hP hD hS (lv_sub hl [0, 1, 2, 3, 4, 6, 7, 8, 9] rfl)
