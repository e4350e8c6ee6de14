/-! rounding up by the reference: its bits -/
def upL (A : Int) : Int := max (tp A - 3452) (-1074)
theorem half_pow {A : Int} {t : Nat} : A / 2 ^ (t + 1) = A / 2 ^ t / 2 := by
  rw [Int.pow_succ, Int.ediv_ediv_of_nonneg (Int.le_of_lt (p2_pos t))]
theorem up_v {A : Int} {t : Int} (ht : 0 ≤ t) : A / 2 ^ t.toNat = 2 * (A / 2 ^ (t + 1).toNat) + A / 2 ^ t.toNat % 2 := by
  rw [show (t + 1).toNat = t.toNat + 1 by omega, half_pow]; omega
theorem low_bit {X : Int} {r c : Nat} (h : r < c) : X % 2 ^ c / 2 ^ r % 2 = X / 2 ^ r % 2 := by
  obtain ⟨k, rfl⟩ : ∃ k : Nat, c = r + (1 + k) := ⟨c - r - 1, by omega⟩
  have d := emod_add_div X (2 ^ (r + (1 + k)))
  have hp := p2_pos r
  have e : (2 : Int) ^ (r + (1 + k)) = 2 ^ r * (2 * 2 ^ k) := by rw [p2_add, p2_add]; rfl
  conv => rhs; rw [← d]
  rw [e, Int.mul_assoc, Int.add_mul_ediv_left _ _ (Int.ne_of_gt hp), Int.mul_assoc]
  omega
theorem bit16 {g : Int → Int} {A t : Int} (hn : nrm 16 g 440) (hd : dg 16 g 440 = A) (ht : 0 ≤ t ∧ t < 7040) : g (t / 16) / 2 ^ (t % 16).toNat % 2 = A / 2 ^ t.toNat % 2 := by
  obtain ⟨k, hk⟩ : ∃ k : Nat, t / 16 = (k : Int) := ⟨(t / 16).toNat, by omega⟩
  obtain ⟨m, hm⟩ : ∃ m : Nat, 440 = k + (m + 1) := ⟨440 - k - 1, by omega⟩
  have h := dg_digit (b := 16) (f := g) (k := k) (m := m) (hn.le (by omega))
  rw [← hm, hd] at h
  rw [hk, ← h, low_bit (by omega), Int.ediv_ediv_of_nonneg (Int.le_of_lt (p2_pos _)), ← p2_add, show 16 * k + (t % 16).toNat = t.toNat by omega]
theorem up_r {A t : Int} {c : Nat} (ht : 0 ≤ t ∧ t < (c : Int)) : A % 2 ^ c / 2 ^ t.toNat = 2 * (A % 2 ^ c / 2 ^ (t + 1).toNat) + A / 2 ^ t.toNat % 2 := by
  rw [← low_bit (X := A) (r := t.toNat) (c := c) (by omega)]
  exact up_v ht.1
theorem up_r0 {A : Int} {t c : Nat} (h : c ≤ t) : A % 2 ^ c / 2 ^ t = 0 := by
  have h1 := Int.emod_nonneg A (Int.ne_of_gt (p2_pos c))
  have h2 := Int.emod_lt_of_pos A (p2_pos c)
  have := p2_le h
  exact Int.ediv_eq_zero_of_lt h1 (by omega)
theorem bits_tp {g : Int → Int} {A : Int} (hn : nrm 16 g 440) (hd : dg 16 g 440 = A) (hA : 0 < A) : 0 < ll A ∧ ll A ≤ 440 ∧ (0 ≤ g (ll A - 1) ∧ g (ll A - 1) < 65536) ∧ 16 * (ll A - 1) + tp (g (ll A - 1)) = tp A := by
  obtain ⟨h1, h2, h3, h4⟩ := tm_res hn hd
  have h0 : ll A ≠ 0 := fun z => by have := ll_z.mp z; omega
  have htop := trm_top (f := g) 440
  have ht := trm_ll hn
  rw [hd] at ht
  obtain ⟨c, hc⟩ : ∃ c : Nat, ll A = ((c + 1 : Nat) : Int) := ⟨(ll A - 1).toNat, by omega⟩
  have hr := h1 (ll A - 1) (by omega) (by omega)
  refine ⟨by omega, by omega, hr, ?_⟩
  have hg : g (ll A - 1) ≠ 0 := by
    have := htop (by omega)
    rw [ht] at this; exact this
  rw [hc] at h2 hr hg ⊢
  rw [show ((c + 1 : Nat) : Int) - 1 = (c : Int) by omega] at hr hg ⊢
  rw [show (((c + 1 : Nat) : Int)).toNat = c + 1 by omega] at h2
  have e1 : dg 16 g (c + 1) = dg 16 g c + g (c : Int) * 2 ^ (16 * c) := rfl
  obtain ⟨r1, r2⟩ := dg_range c (hn.le (show c ≤ 440 by omega))
  obtain ⟨k, hk, k1, k2⟩ := tp_spec (show 0 < g (c : Int) by omega)
  have hw := p2_pos (16 * c)
  have b1 := Int.mul_le_mul_of_nonneg_right k1 (Int.le_of_lt hw)
  have b2 : (g (c : Int) + 1) * 2 ^ (16 * c) ≤ 2 ^ (k + 1) * 2 ^ (16 * c) := Int.mul_le_mul_of_nonneg_right (by omega) (Int.le_of_lt hw)
  rw [Int.add_mul, Int.one_mul] at b2
  rw [← p2_add] at b1 b2
  have := tp_eq (V := A) (k := k + 16 * c) (by omega) (by rw [show k + 16 * c + 1 = k + 1 + 16 * c by omega]; omega)
  omega
theorem or01 {x y : Int} (hx : x = 0 ∨ x = 1) (hy : y = 0 ∨ y = 1) : iI x ||| iI y = iI (zP (x ≠ 0 ∨ y ≠ 0)) := by
  rcases hx with rfl | rfl <;> rcases hy with rfl | rfl <;> decide +kernel

theorem tp_7 {V : Int} (h0 : 0 ≤ V) (h : V < big7) : tp V < 7039 := tp_lt h0 h
def upM (V : Int) : Int := if V < 0 then -((V.natAbs : Int) / 2 ^ (upL (V.natAbs : Int) + 3400).toNat) else V / 2 ^ (upL V + 3400).toNat + zP (V % 2 ^ (upL V + 3400).toNat ≠ 0)
theorem up_lt {V : Int} (h : 0 < V) : V / 2 ^ (upL V + 3400).toNat < 9007199254740992 ∧ 0 ≤ V / 2 ^ (upL V + 3400).toNat := by
  have hp := p2_pos (upL V + 3400).toNat
  refine ⟨?_, Int.ediv_nonneg (by omega) (Int.le_of_lt hp)⟩
  apply Int.ediv_lt_of_lt_mul hp
  obtain ⟨k, hk, a1, a2⟩ := tp_spec h
  have e : (9007199254740992 : Int) = 2 ^ 53 := rfl
  rw [e, ← p2_add]
  have := p2_le (show k + 1 ≤ 53 + (upL V + 3400).toNat by unfold upL; omega)
  omega
theorem v_ll {g : Int → Int} {A : Int} (hn : nrm 16 g 440) (hd : dg 16 g 440 = A) : A < 2 ^ (16 * ll A).toNat := by
  obtain ⟨h1, h2, h3, h4⟩ := tm_res hn hd
  obtain ⟨r1, r2⟩ := dg_range (ll A).toNat (hn.le (by omega))
  rw [h2] at r2
  rw [show (16 * ll A).toNat = 16 * (ll A).toNat by omega]; exact r2
theorem up_v0 {A n c : Int} (h0 : 0 ≤ A) (h : A < 2 ^ n.toNat) : 0 = A / 2 ^ (max n c).toNat := by
  have := p2_le (show n.toNat ≤ (max n c).toNat by omega)
  exact (Int.ediv_eq_zero_of_lt h0 (by omega)).symm
theorem up_s0 {A n : Int} {c : Nat} (h0 : 0 ≤ A) (h : A < 2 ^ n.toNat) : A % 2 ^ c / 2 ^ n.toNat = 0 := by
  have h1 := Int.emod_nonneg A (Int.ne_of_gt (p2_pos c))
  have d := emod_add_div A (2 ^ c)
  have h3 := Int.mul_nonneg (Int.le_of_lt (p2_pos c)) (Int.ediv_nonneg h0 (Int.le_of_lt (p2_pos c)))
  have h2 : A % 2 ^ c ≤ A := by omega
  exact Int.ediv_eq_zero_of_lt h1 (by omega)
def tooU (V : Int) : Prop := 0 < V ∧ (971 < upL V ∨ upL V = 971 ∧ upM V = 9007199254740992)
theorem tooU_i {V : Int} (h1 : 0 < V) (h2 : 971 < upL V ∨ upL V = 971 ∧ upM V = 9007199254740992) : tooU V := ⟨h1, h2⟩
theorem tooU_n {V : Int} (h2 : ¬ (971 < upL V ∨ upL V = 971 ∧ upM V = 9007199254740992)) : ¬ tooU V := fun z => h2 z.2

theorem up_or {x y B : Int} (hx : x = zP (B ≠ 0)) (hy : 0 ≤ y ∧ y < 2) : zP (x ≠ 0 ∨ y ≠ 0) = zP (2 * B + y ≠ 0) := by
  by_cases h : B ≠ 0
  · rw [hx, zP_t h, zP_t (Or.inl (by decide)), zP_t (by omega)]
  · have hB : B = 0 := Decidable.byContradiction h
    rw [hx, zP_f h, hB]
    by_cases h2 : y ≠ 0
    · rw [zP_t (Or.inr h2), zP_t (by omega)]
    · rw [zP_f (by omega), zP_f (by omega)]
set_option maxHeartbeats 4000000 in
set_option maxRecDepth 100000 in
theorem c_Mo_upwards_p (l : Launch) (D : va_G) (aC : Nat → ClassId) (b : Nat → Nat) (M : MS) (er p2 : Int) (her : 0 ≤ er ∧ er ≤ 3) (f f1 : Int → Int) (V : Int) (hf : SumOk f V) (hb7 : -big7 < V ∧ V < big7) [Decidable (tooU V)] (hs : 0 < V) : CT l D aC y_Mo_upwards (rd 1 23) [.ref (b 0)] [(b 18, eI aC 1200 f1), (b 0, .inr (6, [.int (iI er), .int (iI M.rw), .int (iI M.cn), .int (iI M.en), .int (iI M.pr), .double (dM M.ko (-3)), .ref (b 1), .ref (b 2), .ref (b 3), .ref (b 4), .ref (b 5), .ref (b 6), .ref (b 7), .ref (b 8), .ref (b 9), .ref (b 10), .ref (b 11), .ref (b 12), .ref (b 13), .ref (b 14), .ref (b 15), .int (iI p2), .ref (b 16), .ref (b 17), .ref (b 18), .ref (b 19), .ref (b 20), .ref (b 21), .ref (b 22)])), (b 16, eI aC 440 f)] (fun v w => v = some (.double (if tooU V then dM 0 0 else dM (upM V) (upL V))) ∧ ∃ g : Int → Int, w = [(b 18, eI aC 1200 g), (b 0, .inr (6, [.int (iI (if tooU V then fE er 1 3 else er)), .int (iI M.rw), .int (iI M.cn), .int (iI M.en), .int (iI M.pr), .double (dM M.ko (-3)), .ref (b 1), .ref (b 2), .ref (b 3), .ref (b 4), .ref (b 5), .ref (b 6), .ref (b 7), .ref (b 8), .ref (b 9), .ref (b 10), .ref (b 11), .ref (b 12), .ref (b 13), .ref (b 14), .ref (b 15), .int (iI p2), .ref (b 16), .ref (b 17), .ref (b 18), .ref (b 19), .ref (b 20), .ref (b 21), .ref (b 22)])), (b 16, eI aC 440 f)]) := by
  refine CT.of (cc := b_Mo_upwards) (maxL := 12) (ret := (some .double)) (by decide +kernel) k_Mo_upwards (Nat.le_of_ble_eq_true rfl) ?_
  intro p e s m below meth c Q S hr hlocks hQ hK hN hP hD hS ls hl
  obtain ⟨hx, hb, hml, hown, hts⟩ := id S
  have hl : lv_has ls 12 [(0, .ref (b 0))] := hl
  refine lv_aload_n hx hb d_Mo_upwards_0 rfl (lv_at hl 0 rfl) ?_
  refine y_callV1 (V := .int (iI (sgI V))) S (c_Mo_signOfSum l D aC b M er p2 f V hf hb7) t_Mo_152 (rm_ok (by decide) (by decide)) hK hN hP [2, 1] rfl 1 6 rfl rfl rfl hl.1 rfl (Nat.le_of_ble_eq_true rfl) d_Mo_upwards_1 ⟨Nat.zero_le _, Nat.zero_le _⟩ ?_
  refine x_top (sgI V) 1 (by unfold sgI; rw [if_neg (by omega), if_neg (by omega)]) ?_
  refine lv_istore_n (lv' := [(1, .int (iI 1)), (0, .ref (b 0))]) hx hb d_Mo_upwards_4 rfl hl (by decide) rfl (fun ls hl => ?_)
  refine lv_sipush (v := iI 440) hx hb d_Mo_upwards_5 (by decide +kernel) ?_
  refine lv_istore_n (lv' := [(2, .int (iI 440)), (1, .int (iI 1)), (0, .ref (b 0))]) hx hb d_Mo_upwards_8 rfl hl (by decide) rfl (fun ls hl => ?_)
  refine lv_iload_n hx hb d_Mo_upwards_9 rfl (lv_at hl 1 rfl) ?_
  refine x_if_ne (tgt := 15) hx hb d_Mo_upwards_10 (by decide) (by decide) (fun c_10 => ?_) (fun c_10 => (by exfalso; omega))
  refine lv_iconst (v := iI 1) hx hb d_Mo_upwards_15 rfl ?_
  refine lv_istore_n (lv' := [(3, .int (iI 1)), (2, .int (iI 440)), (1, .int (iI 1)), (0, .ref (b 0))]) hx hb d_Mo_upwards_16 rfl hl (by decide) rfl (fun ls hl => ?_)
  refine lv_iconst (v := iI 0) hx hb d_Mo_upwards_17 rfl ?_
  refine lv_istore (lv' := [(4, .int (iI 0)), (3, .int (iI 1)), (2, .int (iI 440)), (1, .int (iI 1)), (0, .ref (b 0))]) hx hb d_Mo_upwards_18 hl (by decide) rfl (fun ls hl => ?_)
  have L20 : ∀ (nn : Nat) (t : Int) (g : Int → Int) (H : Heap) (locs : List Loc) (ls : Array Slot), (0 ≤ t ∧ t ≤ 440) → (∀ j : Int, 0 ≤ j → j < t → g j = f j) → 440 - t < (nn : Int) → va_P D CL [(b 18, eI aC 1200 g), (b 0, .inr (6, [.int (iI er), .int (iI M.rw), .int (iI M.cn), .int (iI M.en), .int (iI M.pr), .double (dM M.ko (-3)), .ref (b 1), .ref (b 2), .ref (b 3), .ref (b 4), .ref (b 5), .ref (b 6), .ref (b 7), .ref (b 8), .ref (b 9), .ref (b 10), .ref (b 11), .ref (b 12), .ref (b 13), .ref (b 14), .ref (b 15), .int (iI p2), .ref (b 16), .ref (b 17), .ref (b 18), .ref (b 19), .ref (b 20), .ref (b 21), .ref (b 22)])), (b 16, eI aC 440 f)] H → va_D (aW [(b 18, eI aC 1200 f1), (b 0, .inr (6, [.int (iI er), .int (iI M.rw), .int (iI M.cn), .int (iI M.en), .int (iI M.pr), .double (dM M.ko (-3)), .ref (b 1), .ref (b 2), .ref (b 3), .ref (b 4), .ref (b 5), .ref (b 6), .ref (b 7), .ref (b 8), .ref (b 9), .ref (b 10), .ref (b 11), .ref (b 12), .ref (b 13), .ref (b 14), .ref (b 15), .int (iI p2), .ref (b 16), .ref (b 17), .ref (b 18), .ref (b 19), .ref (b 20), .ref (b 21), .ref (b 22)])), (b 16, eI aC 440 f)]) [(b 18, eI aC 1200 g), (b 0, .inr (6, [.int (iI er), .int (iI M.rw), .int (iI M.cn), .int (iI M.en), .int (iI M.pr), .double (dM M.ko (-3)), .ref (b 1), .ref (b 2), .ref (b 3), .ref (b 4), .ref (b 5), .ref (b 6), .ref (b 7), .ref (b 8), .ref (b 9), .ref (b 10), .ref (b 11), .ref (b 12), .ref (b 13), .ref (b 14), .ref (b 15), .int (iI p2), .ref (b 16), .ref (b 17), .ref (b 18), .ref (b 19), .ref (b 20), .ref (b 21), .ref (b 22)])), (b 16, eI aC 440 f)] → va_S (aW [(b 18, eI aC 1200 f1), (b 0, .inr (6, [.int (iI er), .int (iI M.rw), .int (iI M.cn), .int (iI M.en), .int (iI M.pr), .double (dM M.ko (-3)), .ref (b 1), .ref (b 2), .ref (b 3), .ref (b 4), .ref (b 5), .ref (b 6), .ref (b 7), .ref (b 8), .ref (b 9), .ref (b 10), .ref (b 11), .ref (b 12), .ref (b 13), .ref (b 14), .ref (b 15), .int (iI p2), .ref (b 16), .ref (b 17), .ref (b 18), .ref (b 19), .ref (b 20), .ref (b 21), .ref (b 22)])), (b 16, eI aC 440 f)]) s.heap H locs → lv_has ls 12 [(4, .int (iI t)), (3, .int (iI 1)), (2, .int (iI 440)), (1, .int (iI 1)), (0, .ref (b 0))] → W p l e (rd 1 23) s m ([.ref (b 0)]).toArray below meth c H locs 0 0 Q (F0 m 20 ls []) := by
    intro nn
    induction nn with
    | zero => intro t g H locs ls ht hg hnn; exact absurd hnn (by omega)
    | succ nn ih =>
      intro t g H locs ls ht hg hnn hP hD hS hl
      refine lv_iload hx hb d_Mo_upwards_20 (lv_at hl 0 rfl) ?_
      refine lv_sipush (v := iI 440) hx hb d_Mo_upwards_22 (by decide +kernel) ?_
      refine x_icmp_ge (tgt := 86) hx hb d_Mo_upwards_25 (by decide) (by omega) (by omega) (fun c_25 => ?_) (fun c_25 => ?_)
      · have hnG : nrm 16 g 440 := fun j h1 h2 => by rw [hg j h1 (by omega)]; exact hf.1 j h1 h2
        have hdG : dg 16 g 440 = V := by rw [dg_congr (f := g) (g := f) 440 (fun j h1 h2 => hg j h1 (by omega))]; exact (hf.top hb7).1 (by omega)
        have hB := bits_tp hnG hdG hs
        have ht7 := tp_7 (V := V) (by omega) hb7.2
        have ht0 := (tp_neg (V := V) (by omega)).mpr (by omega)
        have huL : upL V = max (tp V - 3452) (-1074) := rfl
        refine lv_aload_n hx hb d_Mo_upwards_86 rfl (lv_at hl 4 rfl) ?_
        refine va_get (D := D) (ci := 6) (v := .ref (b 18)) (C := R_Mo) (T := F_Mo) (N := 29) hx hb hts i_Mo hown hK hP 1 rfl rfl 24 (by decide) (hts _ wf_Mo_63) (fun _ h9 => h9) rfl d_Mo_upwards_87 ?_
        refine lv_iload_n hx hb d_Mo_upwards_90 rfl (lv_at hl 2 rfl) ?_
        refine y_callS1 (V := .int (iI (trm g (440 : Int).toNat : Int))) S (c_Mo_trim l D aC (b 18) 1200 g 440 (by decide) (by omega) (fun z h1 h2 => by have := hnG z h1 (by omega); rw [p16] at this; exact this)) t_Mo_84 (rm_ok (by decide) (by decide)) hK hN hP [0] rfl rfl hl.1 rfl (Nat.le_of_ble_eq_true rfl) d_Mo_upwards_91 ⟨Nat.zero_le _, Nat.zero_le _⟩ ?_
        refine x_top (trm g (440 : Int).toNat : Int) (ll V) (by rw [show ((440 : Int)).toNat = 440 from rfl, trm_ll hnG, hdG]) ?_
        refine lv_istore_n (lv' := [(2, .int (iI (ll V))), (4, .int (iI t)), (3, .int (iI 1)), (1, .int (iI 1)), (0, .ref (b 0))]) hx hb d_Mo_upwards_94 rfl hl (by decide) rfl (fun ls hl => ?_)
        refine lv_aload_n hx hb d_Mo_upwards_95 rfl (lv_at hl 4 rfl) ?_
        refine va_get (D := D) (ci := 6) (v := .ref (b 18)) (C := R_Mo) (T := F_Mo) (N := 29) hx hb hts i_Mo hown hK hP 1 rfl rfl 24 (by decide) (hts _ wf_Mo_63) (fun _ h9 => h9) rfl d_Mo_upwards_96 ?_
        refine lv_iload_n hx hb d_Mo_upwards_99 rfl (lv_at hl 0 rfl) ?_
        refine y_callS1 (V := .int (iI (if ll V = 0 then 0 else 16 * (ll V - 1) + tp (g (ll V - 1)) + 1))) S (c_Mo_bits l D aC (b 18) 1200 g (ll V) (by decide) (by omega) (hB.2.2.1)) t_Mo_156 (rm_ok (by decide) (by decide)) hK hN hP [0] rfl rfl hl.1 rfl (Nat.le_of_ble_eq_true rfl) d_Mo_upwards_100 ⟨Nat.zero_le _, Nat.zero_le _⟩ ?_
        refine x_top (if ll V = 0 then 0 else 16 * (ll V - 1) + tp (g (ll V - 1)) + 1) (tp V + 1) (by rw [if_neg (by omega)]; omega) ?_
        refine lv_iconst (v := iI 1) hx hb d_Mo_upwards_103 rfl ?_
        refine x_isub hx hb d_Mo_upwards_104 ?_
        refine lv_sipush (v := iI (-3400)) hx hb d_Mo_upwards_105 (by decide +kernel) ?_
        refine x_iadd hx hb d_Mo_upwards_108 ?_
        refine lv_istore (lv' := [(4, .int (iI (((tp V + 1) - 1) + (-3400)))), (2, .int (iI (ll V))), (3, .int (iI 1)), (1, .int (iI 1)), (0, .ref (b 0))]) hx hb d_Mo_upwards_109 hl (by decide) rfl (fun ls hl => ?_)
        have K133 : ∀ ls : Array Slot, lv_has ls 12 [(4, .int (iI (((tp V + 1) - 1) + (-3400)))), (2, .int (iI (ll V))), (3, .int (iI 1)), (1, .int (iI 1)), (0, .ref (b 0))] → W p l e (rd 1 23) s m ([.ref (b 0)]).toArray below meth c H locs 0 0 Q (F0 m 133 ls [.int (iI (upL V))]) := by
          intro ls hl
          refine lv_istore (lv' := [(5, .int (iI (upL V))), (4, .int (iI (((tp V + 1) - 1) + (-3400)))), (2, .int (iI (ll V))), (3, .int (iI 1)), (1, .int (iI 1)), (0, .ref (b 0))]) hx hb d_Mo_upwards_133 hl (by decide) rfl (fun ls hl => ?_)
          refine lv_lconst (v := lI 0) hx hb d_Mo_upwards_135 (by decide +kernel) ?_
          refine lv_lstore (lv' := [(6, .long (lI 0)), (5, .int (iI (upL V))), (4, .int (iI (((tp V + 1) - 1) + (-3400)))), (2, .int (iI (ll V))), (3, .int (iI 1)), (1, .int (iI 1)), (0, .ref (b 0))]) hx hb d_Mo_upwards_136 hl (by decide) rfl (fun ls hl => ?_)
          refine lv_iconst (v := iI 0) hx hb d_Mo_upwards_138 rfl ?_
          refine lv_istore (lv' := [(8, .int (iI 0)), (6, .long (lI 0)), (5, .int (iI (upL V))), (4, .int (iI (((tp V + 1) - 1) + (-3400)))), (2, .int (iI (ll V))), (3, .int (iI 1)), (1, .int (iI 1)), (0, .ref (b 0))]) hx hb d_Mo_upwards_139 hl (by decide) rfl (fun ls hl => ?_)
          refine lv_bipush (v := iI 16) hx hb d_Mo_upwards_141 (by decide +kernel) ?_
          refine lv_iload_n hx hb d_Mo_upwards_143 rfl (lv_at hl 4 rfl) ?_
          refine x_imul hx hb d_Mo_upwards_144 ?_
          refine lv_iconst (v := iI 1) hx hb d_Mo_upwards_145 rfl ?_
          refine x_isub hx hb d_Mo_upwards_146 ?_
          refine lv_istore (lv' := [(9, .int (iI ((16 * (ll V)) - 1))), (8, .int (iI 0)), (6, .long (lI 0)), (5, .int (iI (upL V))), (4, .int (iI (((tp V + 1) - 1) + (-3400)))), (2, .int (iI (ll V))), (3, .int (iI 1)), (1, .int (iI 1)), (0, .ref (b 0))]) hx hb d_Mo_upwards_147 hl (by decide) rfl (fun ls hl => ?_)
          have L149 : ∀ (nn : Nat) (t : Int) (vv : Int) (rs : Int) (H : Heap) (locs : List Loc) (ls : Array Slot), (-1 ≤ t ∧ t < 16 * ll V) → (vv = V / 2 ^ (max (t + 1) (upL V + 3400)).toNat) → (rs = zP (V % 2 ^ (upL V + 3400).toNat / 2 ^ (t + 1).toNat ≠ 0)) → t + 1 < (nn : Int) → va_P D CL [(b 18, eI aC 1200 g), (b 0, .inr (6, [.int (iI er), .int (iI M.rw), .int (iI M.cn), .int (iI M.en), .int (iI M.pr), .double (dM M.ko (-3)), .ref (b 1), .ref (b 2), .ref (b 3), .ref (b 4), .ref (b 5), .ref (b 6), .ref (b 7), .ref (b 8), .ref (b 9), .ref (b 10), .ref (b 11), .ref (b 12), .ref (b 13), .ref (b 14), .ref (b 15), .int (iI p2), .ref (b 16), .ref (b 17), .ref (b 18), .ref (b 19), .ref (b 20), .ref (b 21), .ref (b 22)])), (b 16, eI aC 440 f)] H → va_D (aW [(b 18, eI aC 1200 f1), (b 0, .inr (6, [.int (iI er), .int (iI M.rw), .int (iI M.cn), .int (iI M.en), .int (iI M.pr), .double (dM M.ko (-3)), .ref (b 1), .ref (b 2), .ref (b 3), .ref (b 4), .ref (b 5), .ref (b 6), .ref (b 7), .ref (b 8), .ref (b 9), .ref (b 10), .ref (b 11), .ref (b 12), .ref (b 13), .ref (b 14), .ref (b 15), .int (iI p2), .ref (b 16), .ref (b 17), .ref (b 18), .ref (b 19), .ref (b 20), .ref (b 21), .ref (b 22)])), (b 16, eI aC 440 f)]) [(b 18, eI aC 1200 g), (b 0, .inr (6, [.int (iI er), .int (iI M.rw), .int (iI M.cn), .int (iI M.en), .int (iI M.pr), .double (dM M.ko (-3)), .ref (b 1), .ref (b 2), .ref (b 3), .ref (b 4), .ref (b 5), .ref (b 6), .ref (b 7), .ref (b 8), .ref (b 9), .ref (b 10), .ref (b 11), .ref (b 12), .ref (b 13), .ref (b 14), .ref (b 15), .int (iI p2), .ref (b 16), .ref (b 17), .ref (b 18), .ref (b 19), .ref (b 20), .ref (b 21), .ref (b 22)])), (b 16, eI aC 440 f)] → va_S (aW [(b 18, eI aC 1200 f1), (b 0, .inr (6, [.int (iI er), .int (iI M.rw), .int (iI M.cn), .int (iI M.en), .int (iI M.pr), .double (dM M.ko (-3)), .ref (b 1), .ref (b 2), .ref (b 3), .ref (b 4), .ref (b 5), .ref (b 6), .ref (b 7), .ref (b 8), .ref (b 9), .ref (b 10), .ref (b 11), .ref (b 12), .ref (b 13), .ref (b 14), .ref (b 15), .int (iI p2), .ref (b 16), .ref (b 17), .ref (b 18), .ref (b 19), .ref (b 20), .ref (b 21), .ref (b 22)])), (b 16, eI aC 440 f)]) s.heap H locs → lv_has ls 12 [(9, .int (iI t)), (8, .int (iI rs)), (6, .long (lI vv)), (5, .int (iI (upL V))), (1, .int (iI 1)), (0, .ref (b 0))] → W p l e (rd 1 23) s m ([.ref (b 0)]).toArray below meth c H locs 0 0 Q (F0 m 149 ls []) := by
            intro nn149
            induction nn149 with
            | zero => intro t vv rs H locs ls ht hvv hrs hnn149; exact absurd hnn149 (by omega)
            | succ nn149 ih149 =>
              intro t vv rs H locs ls ht hvv hrs hnn149 hP hD hS hl
              refine lv_iload hx hb d_Mo_upwards_149 (lv_at hl 0 rfl) ?_
              refine x_if_lt (tgt := 227) hx hb d_Mo_upwards_151 (by decide) (by omega) (fun c_151 => ?_) (fun c_151 => ?_)
              · have hvv1 : vv = V / 2 ^ (upL V + 3400).toNat := by rw [hvv, show max (t + 1) (upL V + 3400) = upL V + 3400 by omega]
                have hrs1 : rs = zP (V % 2 ^ (upL V + 3400).toNat ≠ 0) := by rw [hrs, show (t + 1).toNat = 0 by omega]; simp
                have huM : upM V = vv + rs := by unfold upM; rw [if_neg (by omega), hvv1, hrs1]
                have hul := up_lt hs
                rw [← hvv1] at hul
                have hz1 := zP_01 (V % 2 ^ (upL V + 3400).toNat ≠ 0)
                rw [← hrs1] at hz1
                refine lv_iload_n hx hb d_Mo_upwards_227 rfl (lv_at hl 4 rfl) ?_
                refine x_if_le (tgt := 242) hx hb d_Mo_upwards_228 (by decide) (by decide) (fun c_228 => (by exfalso; omega)) (fun c_228 => ?_)
                refine lv_iload hx hb d_Mo_upwards_231 (lv_at hl 1 rfl) ?_
                refine x_if_eq (tgt := 242) hx hb d_Mo_upwards_233 (by decide) (by omega) (fun c_233 => ?_) (fun c_233 => ?_)
                · refine lv_iload_n hx hb d_Mo_upwards_242 rfl (lv_at hl 4 rfl) ?_
                  refine x_if_le (tgt := 280) hx hb d_Mo_upwards_243 (by decide) (by decide) (fun c_243 => (by exfalso; omega)) (fun c_243 => ?_)
                  refine lv_iload hx hb d_Mo_upwards_246 (lv_at hl 3 rfl) ?_
                  refine lv_sipush (v := iI 971) hx hb d_Mo_upwards_248 (by decide +kernel) ?_
                  refine x_icmp_gt (tgt := 271) hx hb d_Mo_upwards_251 (by decide) (by omega) (by omega) (fun c_251 => ?_) (fun c_251 => ?_)
                  · refine lv_aload_n hx hb d_Mo_upwards_271 rfl (lv_at hl 5 rfl) ?_
                    refine lv_iconst (v := iI 1) hx hb d_Mo_upwards_272 rfl ?_
                    refine lv_iconst (v := iI 3) hx hb d_Mo_upwards_273 rfl ?_
                    refine x_callV1F (V := .int (iI (zP (fE er 1 3 ≠ 0)))) S (c_Mo_fails l D aC b M er p2 1 3 (by omega) (by omega) (by omega)) t_Mo_112 (rm_ok (by decide) (by decide)) hK hN hP hD hS [1] [] rfl rfl (fun w9 hw => by obtain rfl := hw; exact ⟨rfl, Nat.le_of_ble_eq_true rfl⟩) 0 6 rfl rfl rfl hl.1 rfl (Nat.le_of_ble_eq_true rfl) d_Mo_upwards_274 ⟨Nat.zero_le _, Nat.zero_le _⟩ (fun w1 ws1 H locs e9 hw hP hD hS => ?_)
                    obtain rfl := hw
                    have e9 : ws1 = [(b 18, eI aC 1200 g), (b 0, .inr (6, [.int (iI (fE er 1 3)), .int (iI M.rw), .int (iI M.cn), .int (iI M.en), .int (iI M.pr), .double (dM M.ko (-3)), .ref (b 1), .ref (b 2), .ref (b 3), .ref (b 4), .ref (b 5), .ref (b 6), .ref (b 7), .ref (b 8), .ref (b 9), .ref (b 10), .ref (b 11), .ref (b 12), .ref (b 13), .ref (b 14), .ref (b 15), .int (iI p2), .ref (b 16), .ref (b 17), .ref (b 18), .ref (b 19), .ref (b 20), .ref (b 21), .ref (b 22)])), (b 16, eI aC 440 f)] := e9
                    subst e9
                    refine lv_pop hx hb d_Mo_upwards_277 rfl ?_
                    refine x_dconst0 hx hb d_Mo_upwards_278 ?_
                    exact x_dret hx hb hr hlocks hQ (⟨by rw [if_pos (tooU_i hs (by omega))], g, show [(b 18, eI aC 1200 g), (b 0, .inr (6, [.int (iI (fE er 1 3)), .int (iI M.rw), .int (iI M.cn), .int (iI M.en), .int (iI M.pr), .double (dM M.ko (-3)), .ref (b 1), .ref (b 2), .ref (b 3), .ref (b 4), .ref (b 5), .ref (b 6), .ref (b 7), .ref (b 8), .ref (b 9), .ref (b 10), .ref (b 11), .ref (b 12), .ref (b 13), .ref (b 14), .ref (b 15), .int (iI p2), .ref (b 16), .ref (b 17), .ref (b 18), .ref (b 19), .ref (b 20), .ref (b 21), .ref (b 22)])), (b 16, eI aC 440 f)] = _ by rw [if_pos (tooU_i hs (by omega))]⟩) rfl hP hS d_Mo_upwards_279
                  · refine lv_iload hx hb d_Mo_upwards_254 (lv_at hl 3 rfl) ?_
                    refine lv_sipush (v := iI 971) hx hb d_Mo_upwards_256 (by decide +kernel) ?_
                    refine x_icmp_ne (tgt := 280) hx hb d_Mo_upwards_259 (by decide) (by omega) (by omega) (fun c_259 => ?_) (fun c_259 => ?_)
                    · refine lv_iload hx hb d_Mo_upwards_280 (lv_at hl 3 rfl) ?_
                      refine lv_sipush (v := iI 971) hx hb d_Mo_upwards_282 (by decide +kernel) ?_
                      refine x_icmp_le (tgt := 292) hx hb d_Mo_upwards_285 (by decide) (by omega) (by omega) (fun c_285 => ?_) (fun c_285 => (by exfalso; omega))
                      refine lv_lload hx hb d_Mo_upwards_292 (lv_at hl 2 rfl) ?_
                      refine x_topl vv (upM V) (by omega) ?_
                      refine x_l2d hx hb d_Mo_upwards_294 (by omega) ?_
                      refine lv_dstore (lv' := [(9, .double (dM (upM V) 0)), (8, .int (iI rs)), (6, .long (lI vv)), (5, .int (iI (upL V))), (1, .int (iI 1)), (0, .ref (b 0))]) hx hb d_Mo_upwards_295 hl (by decide) rfl (fun ls hl => ?_)
                      refine lv_iconst (v := iI 0) hx hb d_Mo_upwards_297 rfl ?_
                      refine lv_istore (lv' := [(11, .int (iI 0)), (9, .double (dM (upM V) 0)), (8, .int (iI rs)), (6, .long (lI vv)), (5, .int (iI (upL V))), (1, .int (iI 1)), (0, .ref (b 0))]) hx hb d_Mo_upwards_298 hl (by decide) rfl (fun ls hl => ?_)
                      have L300 : ∀ (nn : Nat) (u : Int) (H : Heap) (locs : List Loc) (ls : Array Slot), (0 ≤ u ∧ (u ≤ upL V ∨ u = 0)) → 2000 - u < (nn : Int) → va_P D CL [(b 18, eI aC 1200 g), (b 0, .inr (6, [.int (iI er), .int (iI M.rw), .int (iI M.cn), .int (iI M.en), .int (iI M.pr), .double (dM M.ko (-3)), .ref (b 1), .ref (b 2), .ref (b 3), .ref (b 4), .ref (b 5), .ref (b 6), .ref (b 7), .ref (b 8), .ref (b 9), .ref (b 10), .ref (b 11), .ref (b 12), .ref (b 13), .ref (b 14), .ref (b 15), .int (iI p2), .ref (b 16), .ref (b 17), .ref (b 18), .ref (b 19), .ref (b 20), .ref (b 21), .ref (b 22)])), (b 16, eI aC 440 f)] H → va_D (aW [(b 18, eI aC 1200 f1), (b 0, .inr (6, [.int (iI er), .int (iI M.rw), .int (iI M.cn), .int (iI M.en), .int (iI M.pr), .double (dM M.ko (-3)), .ref (b 1), .ref (b 2), .ref (b 3), .ref (b 4), .ref (b 5), .ref (b 6), .ref (b 7), .ref (b 8), .ref (b 9), .ref (b 10), .ref (b 11), .ref (b 12), .ref (b 13), .ref (b 14), .ref (b 15), .int (iI p2), .ref (b 16), .ref (b 17), .ref (b 18), .ref (b 19), .ref (b 20), .ref (b 21), .ref (b 22)])), (b 16, eI aC 440 f)]) [(b 18, eI aC 1200 g), (b 0, .inr (6, [.int (iI er), .int (iI M.rw), .int (iI M.cn), .int (iI M.en), .int (iI M.pr), .double (dM M.ko (-3)), .ref (b 1), .ref (b 2), .ref (b 3), .ref (b 4), .ref (b 5), .ref (b 6), .ref (b 7), .ref (b 8), .ref (b 9), .ref (b 10), .ref (b 11), .ref (b 12), .ref (b 13), .ref (b 14), .ref (b 15), .int (iI p2), .ref (b 16), .ref (b 17), .ref (b 18), .ref (b 19), .ref (b 20), .ref (b 21), .ref (b 22)])), (b 16, eI aC 440 f)] → va_S (aW [(b 18, eI aC 1200 f1), (b 0, .inr (6, [.int (iI er), .int (iI M.rw), .int (iI M.cn), .int (iI M.en), .int (iI M.pr), .double (dM M.ko (-3)), .ref (b 1), .ref (b 2), .ref (b 3), .ref (b 4), .ref (b 5), .ref (b 6), .ref (b 7), .ref (b 8), .ref (b 9), .ref (b 10), .ref (b 11), .ref (b 12), .ref (b 13), .ref (b 14), .ref (b 15), .int (iI p2), .ref (b 16), .ref (b 17), .ref (b 18), .ref (b 19), .ref (b 20), .ref (b 21), .ref (b 22)])), (b 16, eI aC 440 f)]) s.heap H locs → lv_has ls 12 [(11, .int (iI u)), (9, .double (dM (upM V) u)), (5, .int (iI (upL V))), (1, .int (iI 1))] → W p l e (rd 1 23) s m ([.ref (b 0)]).toArray below meth c H locs 0 0 Q (F0 m 300 ls []) := by
                        intro nn300
                        induction nn300 with
                        | zero => intro u H locs ls hu hnn300; exact absurd hnn300 (by omega)
                        | succ nn300 ih300 =>
                          intro u H locs ls hu hnn300 hP hD hS hl
                          refine lv_iload hx hb d_Mo_upwards_300 (lv_at hl 0 rfl) ?_
                          refine lv_iload hx hb d_Mo_upwards_302 (lv_at hl 2 rfl) ?_
                          refine x_icmp_ge (tgt := 321) hx hb d_Mo_upwards_304 (by decide) (by omega) (by omega) (fun c_304 => ?_) (fun c_304 => ?_)
                          · refine lv_iconst (v := iI 0) hx hb d_Mo_upwards_321 rfl ?_
                            refine lv_istore (lv' := [(11, .int (iI 0)), (9, .double (dM (upM V) u)), (5, .int (iI (upL V))), (1, .int (iI 1))]) hx hb d_Mo_upwards_322 hl (by decide) rfl (fun ls hl => ?_)
                            have L324 : ∀ (nn : Nat) (x : Int) (H : Heap) (locs : List Loc) (ls : Array Slot), (x ≤ 0 ∧ (upL V ≤ x ∨ x = 0)) → x + 2000 < (nn : Int) → va_P D CL [(b 18, eI aC 1200 g), (b 0, .inr (6, [.int (iI er), .int (iI M.rw), .int (iI M.cn), .int (iI M.en), .int (iI M.pr), .double (dM M.ko (-3)), .ref (b 1), .ref (b 2), .ref (b 3), .ref (b 4), .ref (b 5), .ref (b 6), .ref (b 7), .ref (b 8), .ref (b 9), .ref (b 10), .ref (b 11), .ref (b 12), .ref (b 13), .ref (b 14), .ref (b 15), .int (iI p2), .ref (b 16), .ref (b 17), .ref (b 18), .ref (b 19), .ref (b 20), .ref (b 21), .ref (b 22)])), (b 16, eI aC 440 f)] H → va_D (aW [(b 18, eI aC 1200 f1), (b 0, .inr (6, [.int (iI er), .int (iI M.rw), .int (iI M.cn), .int (iI M.en), .int (iI M.pr), .double (dM M.ko (-3)), .ref (b 1), .ref (b 2), .ref (b 3), .ref (b 4), .ref (b 5), .ref (b 6), .ref (b 7), .ref (b 8), .ref (b 9), .ref (b 10), .ref (b 11), .ref (b 12), .ref (b 13), .ref (b 14), .ref (b 15), .int (iI p2), .ref (b 16), .ref (b 17), .ref (b 18), .ref (b 19), .ref (b 20), .ref (b 21), .ref (b 22)])), (b 16, eI aC 440 f)]) [(b 18, eI aC 1200 g), (b 0, .inr (6, [.int (iI er), .int (iI M.rw), .int (iI M.cn), .int (iI M.en), .int (iI M.pr), .double (dM M.ko (-3)), .ref (b 1), .ref (b 2), .ref (b 3), .ref (b 4), .ref (b 5), .ref (b 6), .ref (b 7), .ref (b 8), .ref (b 9), .ref (b 10), .ref (b 11), .ref (b 12), .ref (b 13), .ref (b 14), .ref (b 15), .int (iI p2), .ref (b 16), .ref (b 17), .ref (b 18), .ref (b 19), .ref (b 20), .ref (b 21), .ref (b 22)])), (b 16, eI aC 440 f)] → va_S (aW [(b 18, eI aC 1200 f1), (b 0, .inr (6, [.int (iI er), .int (iI M.rw), .int (iI M.cn), .int (iI M.en), .int (iI M.pr), .double (dM M.ko (-3)), .ref (b 1), .ref (b 2), .ref (b 3), .ref (b 4), .ref (b 5), .ref (b 6), .ref (b 7), .ref (b 8), .ref (b 9), .ref (b 10), .ref (b 11), .ref (b 12), .ref (b 13), .ref (b 14), .ref (b 15), .int (iI p2), .ref (b 16), .ref (b 17), .ref (b 18), .ref (b 19), .ref (b 20), .ref (b 21), .ref (b 22)])), (b 16, eI aC 440 f)]) s.heap H locs → lv_has ls 12 [(11, .int (iI x)), (9, .double (dM (upM V) (u + x))), (5, .int (iI (upL V))), (1, .int (iI 1))] → W p l e (rd 1 23) s m ([.ref (b 0)]).toArray below meth c H locs 0 0 Q (F0 m 324 ls []) := by
                              intro nn324
                              induction nn324 with
                              | zero => intro x H locs ls hx9 hnn324; exact absurd hnn324 (by omega)
                              | succ nn324 ih324 =>
                                intro x H locs ls hx9 hnn324 hP hD hS hl
                                refine lv_iload hx hb d_Mo_upwards_324 (lv_at hl 0 rfl) ?_
                                refine lv_iload hx hb d_Mo_upwards_326 (lv_at hl 2 rfl) ?_
                                refine x_icmp_le (tgt := 345) hx hb d_Mo_upwards_328 (by decide) (by omega) (by omega) (fun c_328 => ?_) (fun c_328 => ?_)
                                · refine lv_iload_n hx hb d_Mo_upwards_345 rfl (lv_at hl 3 rfl) ?_
                                  refine x_if_ge (tgt := 356) hx hb d_Mo_upwards_346 (by decide) (by decide) (fun c_346 => ?_) (fun c_346 => (by exfalso; omega))
                                  refine lv_dload hx hb d_Mo_upwards_356 (lv_at hl 1 rfl) ?_
                                  exact x_dret hx hb hr hlocks hQ (⟨by rw [if_neg (tooU_n (by omega)), show u + x = upL V by omega], g, show [(b 18, eI aC 1200 g), (b 0, .inr (6, [.int (iI er), .int (iI M.rw), .int (iI M.cn), .int (iI M.en), .int (iI M.pr), .double (dM M.ko (-3)), .ref (b 1), .ref (b 2), .ref (b 3), .ref (b 4), .ref (b 5), .ref (b 6), .ref (b 7), .ref (b 8), .ref (b 9), .ref (b 10), .ref (b 11), .ref (b 12), .ref (b 13), .ref (b 14), .ref (b 15), .int (iI p2), .ref (b 16), .ref (b 17), .ref (b 18), .ref (b 19), .ref (b 20), .ref (b 21), .ref (b 22)])), (b 16, eI aC 440 f)] = _ by rw [if_neg (tooU_n (by omega))]⟩) rfl hP hS d_Mo_upwards_358
                                · refine lv_dload hx hb d_Mo_upwards_331 (lv_at hl 1 rfl) ?_
                                  refine x_ldc2d hx hb 1 (-1) (by decide +kernel) hown (hts _ wk_Mo_94) d_Mo_upwards_333 ?_
                                  refine x_dmul1 hx hb d_Mo_upwards_336 (by unfold dOk; omega) (by unfold dOk; omega) (by unfold dOk; omega) ?_
                                  refine lv_dstore (lv' := [(9, .double (dM (upM V) ((u + x) + (-1)))), (11, .int (iI x)), (5, .int (iI (upL V))), (1, .int (iI 1))]) hx hb d_Mo_upwards_337 hl (by decide) rfl (fun ls hl => ?_)
                                  refine lv_iinc (v := iI (x + (-1))) (lv' := [(11, .int (iI (x + (-1)))), (9, .double (dM (upM V) ((u + x) + (-1)))), (5, .int (iI (upL V))), (1, .int (iI 1))]) hx hb d_Mo_upwards_339 hl (k := 1) rfl (iI_add _ _) (by decide) rfl (fun ls hl => ?_)
                                  refine lv_goto (tgt := 324) hx hb d_Mo_upwards_342 (by decide) ?_
                                  exact ih324 (x + (-1)) _ _ ls (by omega) (by omega) hP hD hS (by rw [show (u + (x + (-1)) : Int) = (u + x) + (-1) by omega]; exact lv_sub hl [0, 1, 2, 3] rfl)
                            exact L324 _ 0 _ _ ls (by omega) (n_lt _) hP hD hS (by rw [show (u + 0 : Int) = u by omega]; exact lv_sub hl [0, 1, 2, 3] rfl)
                          · refine lv_dload hx hb d_Mo_upwards_307 (lv_at hl 1 rfl) ?_
                            refine x_ldc2d hx hb 1 1 (by decide +kernel) hown (hts _ wk_Mo_98) d_Mo_upwards_309 ?_
                            refine x_dmul1 hx hb d_Mo_upwards_312 (by unfold dOk; omega) (by unfold dOk; omega) (by unfold dOk; omega) ?_
                            refine lv_dstore (lv' := [(9, .double (dM (upM V) (u + 1))), (11, .int (iI u)), (5, .int (iI (upL V))), (1, .int (iI 1))]) hx hb d_Mo_upwards_313 hl (by decide) rfl (fun ls hl => ?_)
                            refine lv_iinc (v := iI (u + 1)) (lv' := [(11, .int (iI (u + 1))), (9, .double (dM (upM V) (u + 1))), (5, .int (iI (upL V))), (1, .int (iI 1))]) hx hb d_Mo_upwards_315 hl (k := 1) rfl (iI_add _ _) (by decide) rfl (fun ls hl => ?_)
                            refine lv_goto (tgt := 300) hx hb d_Mo_upwards_318 (by decide) ?_
                            exact ih300 (u + 1) _ _ ls (by omega) (by omega) hP hD hS (lv_sub hl [0, 1, 2, 3] rfl)
                      exact L300 _ 0 _ _ ls (by omega) (n_lt _) hP hD hS (lv_sub hl [0, 1, 4, 5] rfl)
                    · refine lv_lload hx hb d_Mo_upwards_262 (lv_at hl 2 rfl) ?_
                      refine x_topl vv (upM V) (by omega) ?_
                      refine x_ldc2 hx hb 9007199254740992 (by decide +kernel) hown (hts _ wk_Mo_161) d_Mo_upwards_264 ?_
                      refine x_lcmp_ne (tgt := 280) hx hb d_Mo_upwards_267 d_Mo_upwards_268 (by decide) (by omega) (by omega) (fun c_267 => ?_) (fun c_267 => ?_)
                      · refine lv_iload hx hb d_Mo_upwards_280 (lv_at hl 3 rfl) ?_
                        refine lv_sipush (v := iI 971) hx hb d_Mo_upwards_282 (by decide +kernel) ?_
                        refine x_icmp_le (tgt := 292) hx hb d_Mo_upwards_285 (by decide) (by omega) (by omega) (fun c_285 => ?_) (fun c_285 => (by exfalso; omega))
                        refine lv_lload hx hb d_Mo_upwards_292 (lv_at hl 2 rfl) ?_
                        refine x_topl vv (upM V) (by omega) ?_
                        refine x_l2d hx hb d_Mo_upwards_294 (by omega) ?_
                        refine lv_dstore (lv' := [(9, .double (dM (upM V) 0)), (8, .int (iI rs)), (6, .long (lI vv)), (5, .int (iI (upL V))), (1, .int (iI 1)), (0, .ref (b 0))]) hx hb d_Mo_upwards_295 hl (by decide) rfl (fun ls hl => ?_)
                        refine lv_iconst (v := iI 0) hx hb d_Mo_upwards_297 rfl ?_
                        refine lv_istore (lv' := [(11, .int (iI 0)), (9, .double (dM (upM V) 0)), (8, .int (iI rs)), (6, .long (lI vv)), (5, .int (iI (upL V))), (1, .int (iI 1)), (0, .ref (b 0))]) hx hb d_Mo_upwards_298 hl (by decide) rfl (fun ls hl => ?_)
                        have L300 : ∀ (nn : Nat) (u : Int) (H : Heap) (locs : List Loc) (ls : Array Slot), (0 ≤ u ∧ (u ≤ upL V ∨ u = 0)) → 2000 - u < (nn : Int) → va_P D CL [(b 18, eI aC 1200 g), (b 0, .inr (6, [.int (iI er), .int (iI M.rw), .int (iI M.cn), .int (iI M.en), .int (iI M.pr), .double (dM M.ko (-3)), .ref (b 1), .ref (b 2), .ref (b 3), .ref (b 4), .ref (b 5), .ref (b 6), .ref (b 7), .ref (b 8), .ref (b 9), .ref (b 10), .ref (b 11), .ref (b 12), .ref (b 13), .ref (b 14), .ref (b 15), .int (iI p2), .ref (b 16), .ref (b 17), .ref (b 18), .ref (b 19), .ref (b 20), .ref (b 21), .ref (b 22)])), (b 16, eI aC 440 f)] H → va_D (aW [(b 18, eI aC 1200 f1), (b 0, .inr (6, [.int (iI er), .int (iI M.rw), .int (iI M.cn), .int (iI M.en), .int (iI M.pr), .double (dM M.ko (-3)), .ref (b 1), .ref (b 2), .ref (b 3), .ref (b 4), .ref (b 5), .ref (b 6), .ref (b 7), .ref (b 8), .ref (b 9), .ref (b 10), .ref (b 11), .ref (b 12), .ref (b 13), .ref (b 14), .ref (b 15), .int (iI p2), .ref (b 16), .ref (b 17), .ref (b 18), .ref (b 19), .ref (b 20), .ref (b 21), .ref (b 22)])), (b 16, eI aC 440 f)]) [(b 18, eI aC 1200 g), (b 0, .inr (6, [.int (iI er), .int (iI M.rw), .int (iI M.cn), .int (iI M.en), .int (iI M.pr), .double (dM M.ko (-3)), .ref (b 1), .ref (b 2), .ref (b 3), .ref (b 4), .ref (b 5), .ref (b 6), .ref (b 7), .ref (b 8), .ref (b 9), .ref (b 10), .ref (b 11), .ref (b 12), .ref (b 13), .ref (b 14), .ref (b 15), .int (iI p2), .ref (b 16), .ref (b 17), .ref (b 18), .ref (b 19), .ref (b 20), .ref (b 21), .ref (b 22)])), (b 16, eI aC 440 f)] → va_S (aW [(b 18, eI aC 1200 f1), (b 0, .inr (6, [.int (iI er), .int (iI M.rw), .int (iI M.cn), .int (iI M.en), .int (iI M.pr), .double (dM M.ko (-3)), .ref (b 1), .ref (b 2), .ref (b 3), .ref (b 4), .ref (b 5), .ref (b 6), .ref (b 7), .ref (b 8), .ref (b 9), .ref (b 10), .ref (b 11), .ref (b 12), .ref (b 13), .ref (b 14), .ref (b 15), .int (iI p2), .ref (b 16), .ref (b 17), .ref (b 18), .ref (b 19), .ref (b 20), .ref (b 21), .ref (b 22)])), (b 16, eI aC 440 f)]) s.heap H locs → lv_has ls 12 [(11, .int (iI u)), (9, .double (dM (upM V) u)), (5, .int (iI (upL V))), (1, .int (iI 1))] → W p l e (rd 1 23) s m ([.ref (b 0)]).toArray below meth c H locs 0 0 Q (F0 m 300 ls []) := by
                          intro nn300
                          induction nn300 with
                          | zero => intro u H locs ls hu hnn300; exact absurd hnn300 (by omega)
                          | succ nn300 ih300 =>
                            intro u H locs ls hu hnn300 hP hD hS hl
                            refine lv_iload hx hb d_Mo_upwards_300 (lv_at hl 0 rfl) ?_
                            refine lv_iload hx hb d_Mo_upwards_302 (lv_at hl 2 rfl) ?_
                            refine x_icmp_ge (tgt := 321) hx hb d_Mo_upwards_304 (by decide) (by omega) (by omega) (fun c_304 => ?_) (fun c_304 => ?_)
                            · refine lv_iconst (v := iI 0) hx hb d_Mo_upwards_321 rfl ?_
                              refine lv_istore (lv' := [(11, .int (iI 0)), (9, .double (dM (upM V) u)), (5, .int (iI (upL V))), (1, .int (iI 1))]) hx hb d_Mo_upwards_322 hl (by decide) rfl (fun ls hl => ?_)
                              have L324 : ∀ (nn : Nat) (x : Int) (H : Heap) (locs : List Loc) (ls : Array Slot), (x ≤ 0 ∧ (upL V ≤ x ∨ x = 0)) → x + 2000 < (nn : Int) → va_P D CL [(b 18, eI aC 1200 g), (b 0, .inr (6, [.int (iI er), .int (iI M.rw), .int (iI M.cn), .int (iI M.en), .int (iI M.pr), .double (dM M.ko (-3)), .ref (b 1), .ref (b 2), .ref (b 3), .ref (b 4), .ref (b 5), .ref (b 6), .ref (b 7), .ref (b 8), .ref (b 9), .ref (b 10), .ref (b 11), .ref (b 12), .ref (b 13), .ref (b 14), .ref (b 15), .int (iI p2), .ref (b 16), .ref (b 17), .ref (b 18), .ref (b 19), .ref (b 20), .ref (b 21), .ref (b 22)])), (b 16, eI aC 440 f)] H → va_D (aW [(b 18, eI aC 1200 f1), (b 0, .inr (6, [.int (iI er), .int (iI M.rw), .int (iI M.cn), .int (iI M.en), .int (iI M.pr), .double (dM M.ko (-3)), .ref (b 1), .ref (b 2), .ref (b 3), .ref (b 4), .ref (b 5), .ref (b 6), .ref (b 7), .ref (b 8), .ref (b 9), .ref (b 10), .ref (b 11), .ref (b 12), .ref (b 13), .ref (b 14), .ref (b 15), .int (iI p2), .ref (b 16), .ref (b 17), .ref (b 18), .ref (b 19), .ref (b 20), .ref (b 21), .ref (b 22)])), (b 16, eI aC 440 f)]) [(b 18, eI aC 1200 g), (b 0, .inr (6, [.int (iI er), .int (iI M.rw), .int (iI M.cn), .int (iI M.en), .int (iI M.pr), .double (dM M.ko (-3)), .ref (b 1), .ref (b 2), .ref (b 3), .ref (b 4), .ref (b 5), .ref (b 6), .ref (b 7), .ref (b 8), .ref (b 9), .ref (b 10), .ref (b 11), .ref (b 12), .ref (b 13), .ref (b 14), .ref (b 15), .int (iI p2), .ref (b 16), .ref (b 17), .ref (b 18), .ref (b 19), .ref (b 20), .ref (b 21), .ref (b 22)])), (b 16, eI aC 440 f)] → va_S (aW [(b 18, eI aC 1200 f1), (b 0, .inr (6, [.int (iI er), .int (iI M.rw), .int (iI M.cn), .int (iI M.en), .int (iI M.pr), .double (dM M.ko (-3)), .ref (b 1), .ref (b 2), .ref (b 3), .ref (b 4), .ref (b 5), .ref (b 6), .ref (b 7), .ref (b 8), .ref (b 9), .ref (b 10), .ref (b 11), .ref (b 12), .ref (b 13), .ref (b 14), .ref (b 15), .int (iI p2), .ref (b 16), .ref (b 17), .ref (b 18), .ref (b 19), .ref (b 20), .ref (b 21), .ref (b 22)])), (b 16, eI aC 440 f)]) s.heap H locs → lv_has ls 12 [(11, .int (iI x)), (9, .double (dM (upM V) (u + x))), (5, .int (iI (upL V))), (1, .int (iI 1))] → W p l e (rd 1 23) s m ([.ref (b 0)]).toArray below meth c H locs 0 0 Q (F0 m 324 ls []) := by
                                intro nn324
                                induction nn324 with
                                | zero => intro x H locs ls hx9 hnn324; exact absurd hnn324 (by omega)
                                | succ nn324 ih324 =>
                                  intro x H locs ls hx9 hnn324 hP hD hS hl
                                  refine lv_iload hx hb d_Mo_upwards_324 (lv_at hl 0 rfl) ?_
                                  refine lv_iload hx hb d_Mo_upwards_326 (lv_at hl 2 rfl) ?_
                                  refine x_icmp_le (tgt := 345) hx hb d_Mo_upwards_328 (by decide) (by omega) (by omega) (fun c_328 => ?_) (fun c_328 => ?_)
                                  · refine lv_iload_n hx hb d_Mo_upwards_345 rfl (lv_at hl 3 rfl) ?_
                                    refine x_if_ge (tgt := 356) hx hb d_Mo_upwards_346 (by decide) (by decide) (fun c_346 => ?_) (fun c_346 => (by exfalso; omega))
                                    refine lv_dload hx hb d_Mo_upwards_356 (lv_at hl 1 rfl) ?_
                                    exact x_dret hx hb hr hlocks hQ (⟨by rw [if_neg (tooU_n (by omega)), show u + x = upL V by omega], g, show [(b 18, eI aC 1200 g), (b 0, .inr (6, [.int (iI er), .int (iI M.rw), .int (iI M.cn), .int (iI M.en), .int (iI M.pr), .double (dM M.ko (-3)), .ref (b 1), .ref (b 2), .ref (b 3), .ref (b 4), .ref (b 5), .ref (b 6), .ref (b 7), .ref (b 8), .ref (b 9), .ref (b 10), .ref (b 11), .ref (b 12), .ref (b 13), .ref (b 14), .ref (b 15), .int (iI p2), .ref (b 16), .ref (b 17), .ref (b 18), .ref (b 19), .ref (b 20), .ref (b 21), .ref (b 22)])), (b 16, eI aC 440 f)] = _ by rw [if_neg (tooU_n (by omega))]⟩) rfl hP hS d_Mo_upwards_358
                                  · refine lv_dload hx hb d_Mo_upwards_331 (lv_at hl 1 rfl) ?_
                                    refine x_ldc2d hx hb 1 (-1) (by decide +kernel) hown (hts _ wk_Mo_94) d_Mo_upwards_333 ?_
                                    refine x_dmul1 hx hb d_Mo_upwards_336 (by unfold dOk; omega) (by unfold dOk; omega) (by unfold dOk; omega) ?_
                                    refine lv_dstore (lv' := [(9, .double (dM (upM V) ((u + x) + (-1)))), (11, .int (iI x)), (5, .int (iI (upL V))), (1, .int (iI 1))]) hx hb d_Mo_upwards_337 hl (by decide) rfl (fun ls hl => ?_)
                                    refine lv_iinc (v := iI (x + (-1))) (lv' := [(11, .int (iI (x + (-1)))), (9, .double (dM (upM V) ((u + x) + (-1)))), (5, .int (iI (upL V))), (1, .int (iI 1))]) hx hb d_Mo_upwards_339 hl (k := 1) rfl (iI_add _ _) (by decide) rfl (fun ls hl => ?_)
                                    refine lv_goto (tgt := 324) hx hb d_Mo_upwards_342 (by decide) ?_
                                    exact ih324 (x + (-1)) _ _ ls (by omega) (by omega) hP hD hS (by rw [show (u + (x + (-1)) : Int) = (u + x) + (-1) by omega]; exact lv_sub hl [0, 1, 2, 3] rfl)
                              exact L324 _ 0 _ _ ls (by omega) (n_lt _) hP hD hS (by rw [show (u + 0 : Int) = u by omega]; exact lv_sub hl [0, 1, 2, 3] rfl)
                            · refine lv_dload hx hb d_Mo_upwards_307 (lv_at hl 1 rfl) ?_
                              refine x_ldc2d hx hb 1 1 (by decide +kernel) hown (hts _ wk_Mo_98) d_Mo_upwards_309 ?_
                              refine x_dmul1 hx hb d_Mo_upwards_312 (by unfold dOk; omega) (by unfold dOk; omega) (by unfold dOk; omega) ?_
                              refine lv_dstore (lv' := [(9, .double (dM (upM V) (u + 1))), (11, .int (iI u)), (5, .int (iI (upL V))), (1, .int (iI 1))]) hx hb d_Mo_upwards_313 hl (by decide) rfl (fun ls hl => ?_)
                              refine lv_iinc (v := iI (u + 1)) (lv' := [(11, .int (iI (u + 1))), (9, .double (dM (upM V) (u + 1))), (5, .int (iI (upL V))), (1, .int (iI 1))]) hx hb d_Mo_upwards_315 hl (k := 1) rfl (iI_add _ _) (by decide) rfl (fun ls hl => ?_)
                              refine lv_goto (tgt := 300) hx hb d_Mo_upwards_318 (by decide) ?_
                              exact ih300 (u + 1) _ _ ls (by omega) (by omega) hP hD hS (lv_sub hl [0, 1, 2, 3] rfl)
                        exact L300 _ 0 _ _ ls (by omega) (n_lt _) hP hD hS (lv_sub hl [0, 1, 4, 5] rfl)
                      · refine lv_aload_n hx hb d_Mo_upwards_271 rfl (lv_at hl 5 rfl) ?_
                        refine lv_iconst (v := iI 1) hx hb d_Mo_upwards_272 rfl ?_
                        refine lv_iconst (v := iI 3) hx hb d_Mo_upwards_273 rfl ?_
                        refine x_callV1F (V := .int (iI (zP (fE er 1 3 ≠ 0)))) S (c_Mo_fails l D aC b M er p2 1 3 (by omega) (by omega) (by omega)) t_Mo_112 (rm_ok (by decide) (by decide)) hK hN hP hD hS [1] [] rfl rfl (fun w9 hw => by obtain rfl := hw; exact ⟨rfl, Nat.le_of_ble_eq_true rfl⟩) 0 6 rfl rfl rfl hl.1 rfl (Nat.le_of_ble_eq_true rfl) d_Mo_upwards_274 ⟨Nat.zero_le _, Nat.zero_le _⟩ (fun w1 ws1 H locs e9 hw hP hD hS => ?_)
                        obtain rfl := hw
                        have e9 : ws1 = [(b 18, eI aC 1200 g), (b 0, .inr (6, [.int (iI (fE er 1 3)), .int (iI M.rw), .int (iI M.cn), .int (iI M.en), .int (iI M.pr), .double (dM M.ko (-3)), .ref (b 1), .ref (b 2), .ref (b 3), .ref (b 4), .ref (b 5), .ref (b 6), .ref (b 7), .ref (b 8), .ref (b 9), .ref (b 10), .ref (b 11), .ref (b 12), .ref (b 13), .ref (b 14), .ref (b 15), .int (iI p2), .ref (b 16), .ref (b 17), .ref (b 18), .ref (b 19), .ref (b 20), .ref (b 21), .ref (b 22)])), (b 16, eI aC 440 f)] := e9
                        subst e9
                        refine lv_pop hx hb d_Mo_upwards_277 rfl ?_
                        refine x_dconst0 hx hb d_Mo_upwards_278 ?_
                        exact x_dret hx hb hr hlocks hQ (⟨by rw [if_pos (tooU_i hs (by omega))], g, show [(b 18, eI aC 1200 g), (b 0, .inr (6, [.int (iI (fE er 1 3)), .int (iI M.rw), .int (iI M.cn), .int (iI M.en), .int (iI M.pr), .double (dM M.ko (-3)), .ref (b 1), .ref (b 2), .ref (b 3), .ref (b 4), .ref (b 5), .ref (b 6), .ref (b 7), .ref (b 8), .ref (b 9), .ref (b 10), .ref (b 11), .ref (b 12), .ref (b 13), .ref (b 14), .ref (b 15), .int (iI p2), .ref (b 16), .ref (b 17), .ref (b 18), .ref (b 19), .ref (b 20), .ref (b 21), .ref (b 22)])), (b 16, eI aC 440 f)] = _ by rw [if_pos (tooU_i hs (by omega))]⟩) rfl hP hS d_Mo_upwards_279
                · refine lv_lload hx hb d_Mo_upwards_236 (lv_at hl 2 rfl) ?_
                  refine lv_lconst (v := lI 1) hx hb d_Mo_upwards_238 (by decide +kernel) ?_
                  refine x_ladd hx hb d_Mo_upwards_239 ?_
                  refine lv_lstore (lv' := [(6, .long (lI (vv + 1))), (9, .int (iI t)), (8, .int (iI rs)), (5, .int (iI (upL V))), (1, .int (iI 1)), (0, .ref (b 0))]) hx hb d_Mo_upwards_240 hl (by decide) rfl (fun ls hl => ?_)
                  refine lv_iload_n hx hb d_Mo_upwards_242 rfl (lv_at hl 4 rfl) ?_
                  refine x_if_le (tgt := 280) hx hb d_Mo_upwards_243 (by decide) (by decide) (fun c_243 => (by exfalso; omega)) (fun c_243 => ?_)
                  refine lv_iload hx hb d_Mo_upwards_246 (lv_at hl 3 rfl) ?_
                  refine lv_sipush (v := iI 971) hx hb d_Mo_upwards_248 (by decide +kernel) ?_
                  refine x_icmp_gt (tgt := 271) hx hb d_Mo_upwards_251 (by decide) (by omega) (by omega) (fun c_251 => ?_) (fun c_251 => ?_)
                  · refine lv_aload_n hx hb d_Mo_upwards_271 rfl (lv_at hl 5 rfl) ?_
                    refine lv_iconst (v := iI 1) hx hb d_Mo_upwards_272 rfl ?_
                    refine lv_iconst (v := iI 3) hx hb d_Mo_upwards_273 rfl ?_
                    refine x_callV1F (V := .int (iI (zP (fE er 1 3 ≠ 0)))) S (c_Mo_fails l D aC b M er p2 1 3 (by omega) (by omega) (by omega)) t_Mo_112 (rm_ok (by decide) (by decide)) hK hN hP hD hS [1] [] rfl rfl (fun w9 hw => by obtain rfl := hw; exact ⟨rfl, Nat.le_of_ble_eq_true rfl⟩) 0 6 rfl rfl rfl hl.1 rfl (Nat.le_of_ble_eq_true rfl) d_Mo_upwards_274 ⟨Nat.zero_le _, Nat.zero_le _⟩ (fun w1 ws1 H locs e9 hw hP hD hS => ?_)
                    obtain rfl := hw
                    have e9 : ws1 = [(b 18, eI aC 1200 g), (b 0, .inr (6, [.int (iI (fE er 1 3)), .int (iI M.rw), .int (iI M.cn), .int (iI M.en), .int (iI M.pr), .double (dM M.ko (-3)), .ref (b 1), .ref (b 2), .ref (b 3), .ref (b 4), .ref (b 5), .ref (b 6), .ref (b 7), .ref (b 8), .ref (b 9), .ref (b 10), .ref (b 11), .ref (b 12), .ref (b 13), .ref (b 14), .ref (b 15), .int (iI p2), .ref (b 16), .ref (b 17), .ref (b 18), .ref (b 19), .ref (b 20), .ref (b 21), .ref (b 22)])), (b 16, eI aC 440 f)] := e9
                    subst e9
                    refine lv_pop hx hb d_Mo_upwards_277 rfl ?_
                    refine x_dconst0 hx hb d_Mo_upwards_278 ?_
                    exact x_dret hx hb hr hlocks hQ (⟨by rw [if_pos (tooU_i hs (by omega))], g, show [(b 18, eI aC 1200 g), (b 0, .inr (6, [.int (iI (fE er 1 3)), .int (iI M.rw), .int (iI M.cn), .int (iI M.en), .int (iI M.pr), .double (dM M.ko (-3)), .ref (b 1), .ref (b 2), .ref (b 3), .ref (b 4), .ref (b 5), .ref (b 6), .ref (b 7), .ref (b 8), .ref (b 9), .ref (b 10), .ref (b 11), .ref (b 12), .ref (b 13), .ref (b 14), .ref (b 15), .int (iI p2), .ref (b 16), .ref (b 17), .ref (b 18), .ref (b 19), .ref (b 20), .ref (b 21), .ref (b 22)])), (b 16, eI aC 440 f)] = _ by rw [if_pos (tooU_i hs (by omega))]⟩) rfl hP hS d_Mo_upwards_279
                  · refine lv_iload hx hb d_Mo_upwards_254 (lv_at hl 3 rfl) ?_
                    refine lv_sipush (v := iI 971) hx hb d_Mo_upwards_256 (by decide +kernel) ?_
                    refine x_icmp_ne (tgt := 280) hx hb d_Mo_upwards_259 (by decide) (by omega) (by omega) (fun c_259 => ?_) (fun c_259 => ?_)
                    · refine lv_iload hx hb d_Mo_upwards_280 (lv_at hl 3 rfl) ?_
                      refine lv_sipush (v := iI 971) hx hb d_Mo_upwards_282 (by decide +kernel) ?_
                      refine x_icmp_le (tgt := 292) hx hb d_Mo_upwards_285 (by decide) (by omega) (by omega) (fun c_285 => ?_) (fun c_285 => (by exfalso; omega))
                      refine lv_lload hx hb d_Mo_upwards_292 (lv_at hl 0 rfl) ?_
                      refine x_topl (vv + 1) (upM V) (by omega) ?_
                      refine x_l2d hx hb d_Mo_upwards_294 (by omega) ?_
                      refine lv_dstore (lv' := [(9, .double (dM (upM V) 0)), (6, .long (lI (vv + 1))), (8, .int (iI rs)), (5, .int (iI (upL V))), (1, .int (iI 1)), (0, .ref (b 0))]) hx hb d_Mo_upwards_295 hl (by decide) rfl (fun ls hl => ?_)
                      refine lv_iconst (v := iI 0) hx hb d_Mo_upwards_297 rfl ?_
                      refine lv_istore (lv' := [(11, .int (iI 0)), (9, .double (dM (upM V) 0)), (6, .long (lI (vv + 1))), (8, .int (iI rs)), (5, .int (iI (upL V))), (1, .int (iI 1)), (0, .ref (b 0))]) hx hb d_Mo_upwards_298 hl (by decide) rfl (fun ls hl => ?_)
                      have L300 : ∀ (nn : Nat) (u : Int) (H : Heap) (locs : List Loc) (ls : Array Slot), (0 ≤ u ∧ (u ≤ upL V ∨ u = 0)) → 2000 - u < (nn : Int) → va_P D CL [(b 18, eI aC 1200 g), (b 0, .inr (6, [.int (iI er), .int (iI M.rw), .int (iI M.cn), .int (iI M.en), .int (iI M.pr), .double (dM M.ko (-3)), .ref (b 1), .ref (b 2), .ref (b 3), .ref (b 4), .ref (b 5), .ref (b 6), .ref (b 7), .ref (b 8), .ref (b 9), .ref (b 10), .ref (b 11), .ref (b 12), .ref (b 13), .ref (b 14), .ref (b 15), .int (iI p2), .ref (b 16), .ref (b 17), .ref (b 18), .ref (b 19), .ref (b 20), .ref (b 21), .ref (b 22)])), (b 16, eI aC 440 f)] H → va_D (aW [(b 18, eI aC 1200 f1), (b 0, .inr (6, [.int (iI er), .int (iI M.rw), .int (iI M.cn), .int (iI M.en), .int (iI M.pr), .double (dM M.ko (-3)), .ref (b 1), .ref (b 2), .ref (b 3), .ref (b 4), .ref (b 5), .ref (b 6), .ref (b 7), .ref (b 8), .ref (b 9), .ref (b 10), .ref (b 11), .ref (b 12), .ref (b 13), .ref (b 14), .ref (b 15), .int (iI p2), .ref (b 16), .ref (b 17), .ref (b 18), .ref (b 19), .ref (b 20), .ref (b 21), .ref (b 22)])), (b 16, eI aC 440 f)]) [(b 18, eI aC 1200 g), (b 0, .inr (6, [.int (iI er), .int (iI M.rw), .int (iI M.cn), .int (iI M.en), .int (iI M.pr), .double (dM M.ko (-3)), .ref (b 1), .ref (b 2), .ref (b 3), .ref (b 4), .ref (b 5), .ref (b 6), .ref (b 7), .ref (b 8), .ref (b 9), .ref (b 10), .ref (b 11), .ref (b 12), .ref (b 13), .ref (b 14), .ref (b 15), .int (iI p2), .ref (b 16), .ref (b 17), .ref (b 18), .ref (b 19), .ref (b 20), .ref (b 21), .ref (b 22)])), (b 16, eI aC 440 f)] → va_S (aW [(b 18, eI aC 1200 f1), (b 0, .inr (6, [.int (iI er), .int (iI M.rw), .int (iI M.cn), .int (iI M.en), .int (iI M.pr), .double (dM M.ko (-3)), .ref (b 1), .ref (b 2), .ref (b 3), .ref (b 4), .ref (b 5), .ref (b 6), .ref (b 7), .ref (b 8), .ref (b 9), .ref (b 10), .ref (b 11), .ref (b 12), .ref (b 13), .ref (b 14), .ref (b 15), .int (iI p2), .ref (b 16), .ref (b 17), .ref (b 18), .ref (b 19), .ref (b 20), .ref (b 21), .ref (b 22)])), (b 16, eI aC 440 f)]) s.heap H locs → lv_has ls 12 [(11, .int (iI u)), (9, .double (dM (upM V) u)), (5, .int (iI (upL V))), (1, .int (iI 1))] → W p l e (rd 1 23) s m ([.ref (b 0)]).toArray below meth c H locs 0 0 Q (F0 m 300 ls []) := by
                        intro nn300
                        induction nn300 with
                        | zero => intro u H locs ls hu hnn300; exact absurd hnn300 (by omega)
                        | succ nn300 ih300 =>
                          intro u H locs ls hu hnn300 hP hD hS hl
                          refine lv_iload hx hb d_Mo_upwards_300 (lv_at hl 0 rfl) ?_
                          refine lv_iload hx hb d_Mo_upwards_302 (lv_at hl 2 rfl) ?_
                          refine x_icmp_ge (tgt := 321) hx hb d_Mo_upwards_304 (by decide) (by omega) (by omega) (fun c_304 => ?_) (fun c_304 => ?_)
                          · refine lv_iconst (v := iI 0) hx hb d_Mo_upwards_321 rfl ?_
                            refine lv_istore (lv' := [(11, .int (iI 0)), (9, .double (dM (upM V) u)), (5, .int (iI (upL V))), (1, .int (iI 1))]) hx hb d_Mo_upwards_322 hl (by decide) rfl (fun ls hl => ?_)
                            have L324 : ∀ (nn : Nat) (x : Int) (H : Heap) (locs : List Loc) (ls : Array Slot), (x ≤ 0 ∧ (upL V ≤ x ∨ x = 0)) → x + 2000 < (nn : Int) → va_P D CL [(b 18, eI aC 1200 g), (b 0, .inr (6, [.int (iI er), .int (iI M.rw), .int (iI M.cn), .int (iI M.en), .int (iI M.pr), .double (dM M.ko (-3)), .ref (b 1), .ref (b 2), .ref (b 3), .ref (b 4), .ref (b 5), .ref (b 6), .ref (b 7), .ref (b 8), .ref (b 9), .ref (b 10), .ref (b 11), .ref (b 12), .ref (b 13), .ref (b 14), .ref (b 15), .int (iI p2), .ref (b 16), .ref (b 17), .ref (b 18), .ref (b 19), .ref (b 20), .ref (b 21), .ref (b 22)])), (b 16, eI aC 440 f)] H → va_D (aW [(b 18, eI aC 1200 f1), (b 0, .inr (6, [.int (iI er), .int (iI M.rw), .int (iI M.cn), .int (iI M.en), .int (iI M.pr), .double (dM M.ko (-3)), .ref (b 1), .ref (b 2), .ref (b 3), .ref (b 4), .ref (b 5), .ref (b 6), .ref (b 7), .ref (b 8), .ref (b 9), .ref (b 10), .ref (b 11), .ref (b 12), .ref (b 13), .ref (b 14), .ref (b 15), .int (iI p2), .ref (b 16), .ref (b 17), .ref (b 18), .ref (b 19), .ref (b 20), .ref (b 21), .ref (b 22)])), (b 16, eI aC 440 f)]) [(b 18, eI aC 1200 g), (b 0, .inr (6, [.int (iI er), .int (iI M.rw), .int (iI M.cn), .int (iI M.en), .int (iI M.pr), .double (dM M.ko (-3)), .ref (b 1), .ref (b 2), .ref (b 3), .ref (b 4), .ref (b 5), .ref (b 6), .ref (b 7), .ref (b 8), .ref (b 9), .ref (b 10), .ref (b 11), .ref (b 12), .ref (b 13), .ref (b 14), .ref (b 15), .int (iI p2), .ref (b 16), .ref (b 17), .ref (b 18), .ref (b 19), .ref (b 20), .ref (b 21), .ref (b 22)])), (b 16, eI aC 440 f)] → va_S (aW [(b 18, eI aC 1200 f1), (b 0, .inr (6, [.int (iI er), .int (iI M.rw), .int (iI M.cn), .int (iI M.en), .int (iI M.pr), .double (dM M.ko (-3)), .ref (b 1), .ref (b 2), .ref (b 3), .ref (b 4), .ref (b 5), .ref (b 6), .ref (b 7), .ref (b 8), .ref (b 9), .ref (b 10), .ref (b 11), .ref (b 12), .ref (b 13), .ref (b 14), .ref (b 15), .int (iI p2), .ref (b 16), .ref (b 17), .ref (b 18), .ref (b 19), .ref (b 20), .ref (b 21), .ref (b 22)])), (b 16, eI aC 440 f)]) s.heap H locs → lv_has ls 12 [(11, .int (iI x)), (9, .double (dM (upM V) (u + x))), (5, .int (iI (upL V))), (1, .int (iI 1))] → W p l e (rd 1 23) s m ([.ref (b 0)]).toArray below meth c H locs 0 0 Q (F0 m 324 ls []) := by
                              intro nn324
                              induction nn324 with
                              | zero => intro x H locs ls hx9 hnn324; exact absurd hnn324 (by omega)
                              | succ nn324 ih324 =>
                                intro x H locs ls hx9 hnn324 hP hD hS hl
                                refine lv_iload hx hb d_Mo_upwards_324 (lv_at hl 0 rfl) ?_
                                refine lv_iload hx hb d_Mo_upwards_326 (lv_at hl 2 rfl) ?_
                                refine x_icmp_le (tgt := 345) hx hb d_Mo_upwards_328 (by decide) (by omega) (by omega) (fun c_328 => ?_) (fun c_328 => ?_)
                                · refine lv_iload_n hx hb d_Mo_upwards_345 rfl (lv_at hl 3 rfl) ?_
                                  refine x_if_ge (tgt := 356) hx hb d_Mo_upwards_346 (by decide) (by decide) (fun c_346 => ?_) (fun c_346 => (by exfalso; omega))
                                  refine lv_dload hx hb d_Mo_upwards_356 (lv_at hl 1 rfl) ?_
                                  exact x_dret hx hb hr hlocks hQ (⟨by rw [if_neg (tooU_n (by omega)), show u + x = upL V by omega], g, show [(b 18, eI aC 1200 g), (b 0, .inr (6, [.int (iI er), .int (iI M.rw), .int (iI M.cn), .int (iI M.en), .int (iI M.pr), .double (dM M.ko (-3)), .ref (b 1), .ref (b 2), .ref (b 3), .ref (b 4), .ref (b 5), .ref (b 6), .ref (b 7), .ref (b 8), .ref (b 9), .ref (b 10), .ref (b 11), .ref (b 12), .ref (b 13), .ref (b 14), .ref (b 15), .int (iI p2), .ref (b 16), .ref (b 17), .ref (b 18), .ref (b 19), .ref (b 20), .ref (b 21), .ref (b 22)])), (b 16, eI aC 440 f)] = _ by rw [if_neg (tooU_n (by omega))]⟩) rfl hP hS d_Mo_upwards_358
                                · refine lv_dload hx hb d_Mo_upwards_331 (lv_at hl 1 rfl) ?_
                                  refine x_ldc2d hx hb 1 (-1) (by decide +kernel) hown (hts _ wk_Mo_94) d_Mo_upwards_333 ?_
                                  refine x_dmul1 hx hb d_Mo_upwards_336 (by unfold dOk; omega) (by unfold dOk; omega) (by unfold dOk; omega) ?_
                                  refine lv_dstore (lv' := [(9, .double (dM (upM V) ((u + x) + (-1)))), (11, .int (iI x)), (5, .int (iI (upL V))), (1, .int (iI 1))]) hx hb d_Mo_upwards_337 hl (by decide) rfl (fun ls hl => ?_)
                                  refine lv_iinc (v := iI (x + (-1))) (lv' := [(11, .int (iI (x + (-1)))), (9, .double (dM (upM V) ((u + x) + (-1)))), (5, .int (iI (upL V))), (1, .int (iI 1))]) hx hb d_Mo_upwards_339 hl (k := 1) rfl (iI_add _ _) (by decide) rfl (fun ls hl => ?_)
                                  refine lv_goto (tgt := 324) hx hb d_Mo_upwards_342 (by decide) ?_
                                  exact ih324 (x + (-1)) _ _ ls (by omega) (by omega) hP hD hS (by rw [show (u + (x + (-1)) : Int) = (u + x) + (-1) by omega]; exact lv_sub hl [0, 1, 2, 3] rfl)
                            exact L324 _ 0 _ _ ls (by omega) (n_lt _) hP hD hS (by rw [show (u + 0 : Int) = u by omega]; exact lv_sub hl [0, 1, 2, 3] rfl)
                          · refine lv_dload hx hb d_Mo_upwards_307 (lv_at hl 1 rfl) ?_
                            refine x_ldc2d hx hb 1 1 (by decide +kernel) hown (hts _ wk_Mo_98) d_Mo_upwards_309 ?_
                            refine x_dmul1 hx hb d_Mo_upwards_312 (by unfold dOk; omega) (by unfold dOk; omega) (by unfold dOk; omega) ?_
                            refine lv_dstore (lv' := [(9, .double (dM (upM V) (u + 1))), (11, .int (iI u)), (5, .int (iI (upL V))), (1, .int (iI 1))]) hx hb d_Mo_upwards_313 hl (by decide) rfl (fun ls hl => ?_)
                            refine lv_iinc (v := iI (u + 1)) (lv' := [(11, .int (iI (u + 1))), (9, .double (dM (upM V) (u + 1))), (5, .int (iI (upL V))), (1, .int (iI 1))]) hx hb d_Mo_upwards_315 hl (k := 1) rfl (iI_add _ _) (by decide) rfl (fun ls hl => ?_)
                            refine lv_goto (tgt := 300) hx hb d_Mo_upwards_318 (by decide) ?_
                            exact ih300 (u + 1) _ _ ls (by omega) (by omega) hP hD hS (lv_sub hl [0, 1, 2, 3] rfl)
                      exact L300 _ 0 _ _ ls (by omega) (n_lt _) hP hD hS (lv_sub hl [0, 1, 4, 5] rfl)
                    · refine lv_lload hx hb d_Mo_upwards_262 (lv_at hl 0 rfl) ?_
                      refine x_topl (vv + 1) (upM V) (by omega) ?_
                      refine x_ldc2 hx hb 9007199254740992 (by decide +kernel) hown (hts _ wk_Mo_161) d_Mo_upwards_264 ?_
                      refine x_lcmp_ne (tgt := 280) hx hb d_Mo_upwards_267 d_Mo_upwards_268 (by decide) (by omega) (by omega) (fun c_267 => ?_) (fun c_267 => ?_)
                      · refine lv_iload hx hb d_Mo_upwards_280 (lv_at hl 3 rfl) ?_
                        refine lv_sipush (v := iI 971) hx hb d_Mo_upwards_282 (by decide +kernel) ?_
                        refine x_icmp_le (tgt := 292) hx hb d_Mo_upwards_285 (by decide) (by omega) (by omega) (fun c_285 => ?_) (fun c_285 => (by exfalso; omega))
                        refine lv_lload hx hb d_Mo_upwards_292 (lv_at hl 0 rfl) ?_
                        refine x_topl (vv + 1) (upM V) (by omega) ?_
                        refine x_l2d hx hb d_Mo_upwards_294 (by omega) ?_
                        refine lv_dstore (lv' := [(9, .double (dM (upM V) 0)), (6, .long (lI (vv + 1))), (8, .int (iI rs)), (5, .int (iI (upL V))), (1, .int (iI 1)), (0, .ref (b 0))]) hx hb d_Mo_upwards_295 hl (by decide) rfl (fun ls hl => ?_)
                        refine lv_iconst (v := iI 0) hx hb d_Mo_upwards_297 rfl ?_
                        refine lv_istore (lv' := [(11, .int (iI 0)), (9, .double (dM (upM V) 0)), (6, .long (lI (vv + 1))), (8, .int (iI rs)), (5, .int (iI (upL V))), (1, .int (iI 1)), (0, .ref (b 0))]) hx hb d_Mo_upwards_298 hl (by decide) rfl (fun ls hl => ?_)
                        have L300 : ∀ (nn : Nat) (u : Int) (H : Heap) (locs : List Loc) (ls : Array Slot), (0 ≤ u ∧ (u ≤ upL V ∨ u = 0)) → 2000 - u < (nn : Int) → va_P D CL [(b 18, eI aC 1200 g), (b 0, .inr (6, [.int (iI er), .int (iI M.rw), .int (iI M.cn), .int (iI M.en), .int (iI M.pr), .double (dM M.ko (-3)), .ref (b 1), .ref (b 2), .ref (b 3), .ref (b 4), .ref (b 5), .ref (b 6), .ref (b 7), .ref (b 8), .ref (b 9), .ref (b 10), .ref (b 11), .ref (b 12), .ref (b 13), .ref (b 14), .ref (b 15), .int (iI p2), .ref (b 16), .ref (b 17), .ref (b 18), .ref (b 19), .ref (b 20), .ref (b 21), .ref (b 22)])), (b 16, eI aC 440 f)] H → va_D (aW [(b 18, eI aC 1200 f1), (b 0, .inr (6, [.int (iI er), .int (iI M.rw), .int (iI M.cn), .int (iI M.en), .int (iI M.pr), .double (dM M.ko (-3)), .ref (b 1), .ref (b 2), .ref (b 3), .ref (b 4), .ref (b 5), .ref (b 6), .ref (b 7), .ref (b 8), .ref (b 9), .ref (b 10), .ref (b 11), .ref (b 12), .ref (b 13), .ref (b 14), .ref (b 15), .int (iI p2), .ref (b 16), .ref (b 17), .ref (b 18), .ref (b 19), .ref (b 20), .ref (b 21), .ref (b 22)])), (b 16, eI aC 440 f)]) [(b 18, eI aC 1200 g), (b 0, .inr (6, [.int (iI er), .int (iI M.rw), .int (iI M.cn), .int (iI M.en), .int (iI M.pr), .double (dM M.ko (-3)), .ref (b 1), .ref (b 2), .ref (b 3), .ref (b 4), .ref (b 5), .ref (b 6), .ref (b 7), .ref (b 8), .ref (b 9), .ref (b 10), .ref (b 11), .ref (b 12), .ref (b 13), .ref (b 14), .ref (b 15), .int (iI p2), .ref (b 16), .ref (b 17), .ref (b 18), .ref (b 19), .ref (b 20), .ref (b 21), .ref (b 22)])), (b 16, eI aC 440 f)] → va_S (aW [(b 18, eI aC 1200 f1), (b 0, .inr (6, [.int (iI er), .int (iI M.rw), .int (iI M.cn), .int (iI M.en), .int (iI M.pr), .double (dM M.ko (-3)), .ref (b 1), .ref (b 2), .ref (b 3), .ref (b 4), .ref (b 5), .ref (b 6), .ref (b 7), .ref (b 8), .ref (b 9), .ref (b 10), .ref (b 11), .ref (b 12), .ref (b 13), .ref (b 14), .ref (b 15), .int (iI p2), .ref (b 16), .ref (b 17), .ref (b 18), .ref (b 19), .ref (b 20), .ref (b 21), .ref (b 22)])), (b 16, eI aC 440 f)]) s.heap H locs → lv_has ls 12 [(11, .int (iI u)), (9, .double (dM (upM V) u)), (5, .int (iI (upL V))), (1, .int (iI 1))] → W p l e (rd 1 23) s m ([.ref (b 0)]).toArray below meth c H locs 0 0 Q (F0 m 300 ls []) := by
                          intro nn300
                          induction nn300 with
                          | zero => intro u H locs ls hu hnn300; exact absurd hnn300 (by omega)
                          | succ nn300 ih300 =>
                            intro u H locs ls hu hnn300 hP hD hS hl
                            refine lv_iload hx hb d_Mo_upwards_300 (lv_at hl 0 rfl) ?_
                            refine lv_iload hx hb d_Mo_upwards_302 (lv_at hl 2 rfl) ?_
                            refine x_icmp_ge (tgt := 321) hx hb d_Mo_upwards_304 (by decide) (by omega) (by omega) (fun c_304 => ?_) (fun c_304 => ?_)
                            · refine lv_iconst (v := iI 0) hx hb d_Mo_upwards_321 rfl ?_
                              refine lv_istore (lv' := [(11, .int (iI 0)), (9, .double (dM (upM V) u)), (5, .int (iI (upL V))), (1, .int (iI 1))]) hx hb d_Mo_upwards_322 hl (by decide) rfl (fun ls hl => ?_)
                              have L324 : ∀ (nn : Nat) (x : Int) (H : Heap) (locs : List Loc) (ls : Array Slot), (x ≤ 0 ∧ (upL V ≤ x ∨ x = 0)) → x + 2000 < (nn : Int) → va_P D CL [(b 18, eI aC 1200 g), (b 0, .inr (6, [.int (iI er), .int (iI M.rw), .int (iI M.cn), .int (iI M.en), .int (iI M.pr), .double (dM M.ko (-3)), .ref (b 1), .ref (b 2), .ref (b 3), .ref (b 4), .ref (b 5), .ref (b 6), .ref (b 7), .ref (b 8), .ref (b 9), .ref (b 10), .ref (b 11), .ref (b 12), .ref (b 13), .ref (b 14), .ref (b 15), .int (iI p2), .ref (b 16), .ref (b 17), .ref (b 18), .ref (b 19), .ref (b 20), .ref (b 21), .ref (b 22)])), (b 16, eI aC 440 f)] H → va_D (aW [(b 18, eI aC 1200 f1), (b 0, .inr (6, [.int (iI er), .int (iI M.rw), .int (iI M.cn), .int (iI M.en), .int (iI M.pr), .double (dM M.ko (-3)), .ref (b 1), .ref (b 2), .ref (b 3), .ref (b 4), .ref (b 5), .ref (b 6), .ref (b 7), .ref (b 8), .ref (b 9), .ref (b 10), .ref (b 11), .ref (b 12), .ref (b 13), .ref (b 14), .ref (b 15), .int (iI p2), .ref (b 16), .ref (b 17), .ref (b 18), .ref (b 19), .ref (b 20), .ref (b 21), .ref (b 22)])), (b 16, eI aC 440 f)]) [(b 18, eI aC 1200 g), (b 0, .inr (6, [.int (iI er), .int (iI M.rw), .int (iI M.cn), .int (iI M.en), .int (iI M.pr), .double (dM M.ko (-3)), .ref (b 1), .ref (b 2), .ref (b 3), .ref (b 4), .ref (b 5), .ref (b 6), .ref (b 7), .ref (b 8), .ref (b 9), .ref (b 10), .ref (b 11), .ref (b 12), .ref (b 13), .ref (b 14), .ref (b 15), .int (iI p2), .ref (b 16), .ref (b 17), .ref (b 18), .ref (b 19), .ref (b 20), .ref (b 21), .ref (b 22)])), (b 16, eI aC 440 f)] → va_S (aW [(b 18, eI aC 1200 f1), (b 0, .inr (6, [.int (iI er), .int (iI M.rw), .int (iI M.cn), .int (iI M.en), .int (iI M.pr), .double (dM M.ko (-3)), .ref (b 1), .ref (b 2), .ref (b 3), .ref (b 4), .ref (b 5), .ref (b 6), .ref (b 7), .ref (b 8), .ref (b 9), .ref (b 10), .ref (b 11), .ref (b 12), .ref (b 13), .ref (b 14), .ref (b 15), .int (iI p2), .ref (b 16), .ref (b 17), .ref (b 18), .ref (b 19), .ref (b 20), .ref (b 21), .ref (b 22)])), (b 16, eI aC 440 f)]) s.heap H locs → lv_has ls 12 [(11, .int (iI x)), (9, .double (dM (upM V) (u + x))), (5, .int (iI (upL V))), (1, .int (iI 1))] → W p l e (rd 1 23) s m ([.ref (b 0)]).toArray below meth c H locs 0 0 Q (F0 m 324 ls []) := by
                                intro nn324
                                induction nn324 with
                                | zero => intro x H locs ls hx9 hnn324; exact absurd hnn324 (by omega)
                                | succ nn324 ih324 =>
                                  intro x H locs ls hx9 hnn324 hP hD hS hl
                                  refine lv_iload hx hb d_Mo_upwards_324 (lv_at hl 0 rfl) ?_
                                  refine lv_iload hx hb d_Mo_upwards_326 (lv_at hl 2 rfl) ?_
                                  refine x_icmp_le (tgt := 345) hx hb d_Mo_upwards_328 (by decide) (by omega) (by omega) (fun c_328 => ?_) (fun c_328 => ?_)
                                  · refine lv_iload_n hx hb d_Mo_upwards_345 rfl (lv_at hl 3 rfl) ?_
                                    refine x_if_ge (tgt := 356) hx hb d_Mo_upwards_346 (by decide) (by decide) (fun c_346 => ?_) (fun c_346 => (by exfalso; omega))
                                    refine lv_dload hx hb d_Mo_upwards_356 (lv_at hl 1 rfl) ?_
                                    exact x_dret hx hb hr hlocks hQ (⟨by rw [if_neg (tooU_n (by omega)), show u + x = upL V by omega], g, show [(b 18, eI aC 1200 g), (b 0, .inr (6, [.int (iI er), .int (iI M.rw), .int (iI M.cn), .int (iI M.en), .int (iI M.pr), .double (dM M.ko (-3)), .ref (b 1), .ref (b 2), .ref (b 3), .ref (b 4), .ref (b 5), .ref (b 6), .ref (b 7), .ref (b 8), .ref (b 9), .ref (b 10), .ref (b 11), .ref (b 12), .ref (b 13), .ref (b 14), .ref (b 15), .int (iI p2), .ref (b 16), .ref (b 17), .ref (b 18), .ref (b 19), .ref (b 20), .ref (b 21), .ref (b 22)])), (b 16, eI aC 440 f)] = _ by rw [if_neg (tooU_n (by omega))]⟩) rfl hP hS d_Mo_upwards_358
                                  · refine lv_dload hx hb d_Mo_upwards_331 (lv_at hl 1 rfl) ?_
                                    refine x_ldc2d hx hb 1 (-1) (by decide +kernel) hown (hts _ wk_Mo_94) d_Mo_upwards_333 ?_
                                    refine x_dmul1 hx hb d_Mo_upwards_336 (by unfold dOk; omega) (by unfold dOk; omega) (by unfold dOk; omega) ?_
                                    refine lv_dstore (lv' := [(9, .double (dM (upM V) ((u + x) + (-1)))), (11, .int (iI x)), (5, .int (iI (upL V))), (1, .int (iI 1))]) hx hb d_Mo_upwards_337 hl (by decide) rfl (fun ls hl => ?_)
                                    refine lv_iinc (v := iI (x + (-1))) (lv' := [(11, .int (iI (x + (-1)))), (9, .double (dM (upM V) ((u + x) + (-1)))), (5, .int (iI (upL V))), (1, .int (iI 1))]) hx hb d_Mo_upwards_339 hl (k := 1) rfl (iI_add _ _) (by decide) rfl (fun ls hl => ?_)
                                    refine lv_goto (tgt := 324) hx hb d_Mo_upwards_342 (by decide) ?_
                                    exact ih324 (x + (-1)) _ _ ls (by omega) (by omega) hP hD hS (by rw [show (u + (x + (-1)) : Int) = (u + x) + (-1) by omega]; exact lv_sub hl [0, 1, 2, 3] rfl)
                              exact L324 _ 0 _ _ ls (by omega) (n_lt _) hP hD hS (by rw [show (u + 0 : Int) = u by omega]; exact lv_sub hl [0, 1, 2, 3] rfl)
                            · refine lv_dload hx hb d_Mo_upwards_307 (lv_at hl 1 rfl) ?_
                              refine x_ldc2d hx hb 1 1 (by decide +kernel) hown (hts _ wk_Mo_98) d_Mo_upwards_309 ?_
                              refine x_dmul1 hx hb d_Mo_upwards_312 (by unfold dOk; omega) (by unfold dOk; omega) (by unfold dOk; omega) ?_
                              refine lv_dstore (lv' := [(9, .double (dM (upM V) (u + 1))), (11, .int (iI u)), (5, .int (iI (upL V))), (1, .int (iI 1))]) hx hb d_Mo_upwards_313 hl (by decide) rfl (fun ls hl => ?_)
                              refine lv_iinc (v := iI (u + 1)) (lv' := [(11, .int (iI (u + 1))), (9, .double (dM (upM V) (u + 1))), (5, .int (iI (upL V))), (1, .int (iI 1))]) hx hb d_Mo_upwards_315 hl (k := 1) rfl (iI_add _ _) (by decide) rfl (fun ls hl => ?_)
                              refine lv_goto (tgt := 300) hx hb d_Mo_upwards_318 (by decide) ?_
                              exact ih300 (u + 1) _ _ ls (by omega) (by omega) hP hD hS (lv_sub hl [0, 1, 2, 3] rfl)
                        exact L300 _ 0 _ _ ls (by omega) (n_lt _) hP hD hS (lv_sub hl [0, 1, 4, 5] rfl)
                      · refine lv_aload_n hx hb d_Mo_upwards_271 rfl (lv_at hl 5 rfl) ?_
                        refine lv_iconst (v := iI 1) hx hb d_Mo_upwards_272 rfl ?_
                        refine lv_iconst (v := iI 3) hx hb d_Mo_upwards_273 rfl ?_
                        refine x_callV1F (V := .int (iI (zP (fE er 1 3 ≠ 0)))) S (c_Mo_fails l D aC b M er p2 1 3 (by omega) (by omega) (by omega)) t_Mo_112 (rm_ok (by decide) (by decide)) hK hN hP hD hS [1] [] rfl rfl (fun w9 hw => by obtain rfl := hw; exact ⟨rfl, Nat.le_of_ble_eq_true rfl⟩) 0 6 rfl rfl rfl hl.1 rfl (Nat.le_of_ble_eq_true rfl) d_Mo_upwards_274 ⟨Nat.zero_le _, Nat.zero_le _⟩ (fun w1 ws1 H locs e9 hw hP hD hS => ?_)
                        obtain rfl := hw
                        have e9 : ws1 = [(b 18, eI aC 1200 g), (b 0, .inr (6, [.int (iI (fE er 1 3)), .int (iI M.rw), .int (iI M.cn), .int (iI M.en), .int (iI M.pr), .double (dM M.ko (-3)), .ref (b 1), .ref (b 2), .ref (b 3), .ref (b 4), .ref (b 5), .ref (b 6), .ref (b 7), .ref (b 8), .ref (b 9), .ref (b 10), .ref (b 11), .ref (b 12), .ref (b 13), .ref (b 14), .ref (b 15), .int (iI p2), .ref (b 16), .ref (b 17), .ref (b 18), .ref (b 19), .ref (b 20), .ref (b 21), .ref (b 22)])), (b 16, eI aC 440 f)] := e9
                        subst e9
                        refine lv_pop hx hb d_Mo_upwards_277 rfl ?_
                        refine x_dconst0 hx hb d_Mo_upwards_278 ?_
                        exact x_dret hx hb hr hlocks hQ (⟨by rw [if_pos (tooU_i hs (by omega))], g, show [(b 18, eI aC 1200 g), (b 0, .inr (6, [.int (iI (fE er 1 3)), .int (iI M.rw), .int (iI M.cn), .int (iI M.en), .int (iI M.pr), .double (dM M.ko (-3)), .ref (b 1), .ref (b 2), .ref (b 3), .ref (b 4), .ref (b 5), .ref (b 6), .ref (b 7), .ref (b 8), .ref (b 9), .ref (b 10), .ref (b 11), .ref (b 12), .ref (b 13), .ref (b 14), .ref (b 15), .int (iI p2), .ref (b 16), .ref (b 17), .ref (b 18), .ref (b 19), .ref (b 20), .ref (b 21), .ref (b 22)])), (b 16, eI aC 440 f)] = _ by rw [if_pos (tooU_i hs (by omega))]⟩) rfl hP hS d_Mo_upwards_279
              · refine lv_aload_n hx hb d_Mo_upwards_154 rfl (lv_at hl 5 rfl) ?_
                refine va_get (D := D) (ci := 6) (v := .ref (b 18)) (C := R_Mo) (T := F_Mo) (N := 29) hx hb hts i_Mo hown hK hP 1 rfl rfl 24 (by decide) (hts _ wf_Mo_63) (fun _ h9 => h9) rfl d_Mo_upwards_155 ?_
                refine lv_iload hx hb d_Mo_upwards_158 (lv_at hl 0 rfl) ?_
                refine lv_iconst (v := iI 4) hx hb d_Mo_upwards_160 rfl ?_
                refine x_ishr hx hb d_Mo_upwards_161 (by omega) (by omega) ?_
                refine x_top _ (t / 16) rfl ?_
                have hgr := hnG (t / 16) (by omega) (by omega)
                rw [p16] at hgr
                refine x_iald hx hb hK hP 0 rfl (by omega) (by decide) d_Mo_upwards_162 ?_
                refine lv_iload hx hb d_Mo_upwards_163 (lv_at hl 0 rfl) ?_
                refine lv_bipush (v := iI 15) hx hb d_Mo_upwards_165 (by decide +kernel) ?_
                refine x_iand (v := (t % 16)) hx hb d_Mo_upwards_167 (iI_m4 _) ?_
                refine x_ishr hx hb d_Mo_upwards_168 (by omega) (by omega) ?_
                refine lv_iconst (v := iI 1) hx hb d_Mo_upwards_169 rfl ?_
                refine x_iand (v := (((g (t / 16)) / 2 ^ (t % 16).toNat) % 2)) hx hb d_Mo_upwards_170 (iI_m1 _) ?_
                have K179 : ∀ ls : Array Slot, lv_has ls 12 [(9, .int (iI t)), (8, .int (iI rs)), (6, .long (lI vv)), (5, .int (iI (upL V))), (1, .int (iI 1)), (0, .ref (b 0))] → W p l e (rd 1 23) s m ([.ref (b 0)]).toArray below meth c H locs 0 0 Q (F0 m 179 ls [.int (iI (V / 2 ^ t.toNat % 2))]) := by
                  intro ls hl
                  refine lv_istore (lv' := [(10, .int (iI (V / 2 ^ t.toNat % 2))), (9, .int (iI t)), (8, .int (iI rs)), (6, .long (lI vv)), (5, .int (iI (upL V))), (1, .int (iI 1)), (0, .ref (b 0))]) hx hb d_Mo_upwards_179 hl (by decide) rfl (fun ls hl => ?_)
                  refine lv_iload hx hb d_Mo_upwards_181 (lv_at hl 1 rfl) ?_
                  refine lv_sipush (v := iI (-3400)) hx hb d_Mo_upwards_183 (by decide +kernel) ?_
                  refine x_iadd hx hb d_Mo_upwards_186 ?_
                  refine lv_iload hx hb d_Mo_upwards_187 (lv_at hl 4 rfl) ?_
                  refine x_icmp_lt (tgt := 214) hx hb d_Mo_upwards_189 (by decide) (by omega) (by omega) (fun c_189 => ?_) (fun c_189 => ?_)
                  · refine lv_iload hx hb d_Mo_upwards_214 (lv_at hl 2 rfl) ?_
                    refine lv_iload hx hb d_Mo_upwards_216 (lv_at hl 0 rfl) ?_
                    refine x_ior (v := (zP (rs ≠ 0 ∨ V / 2 ^ t.toNat % 2 ≠ 0))) hx hb d_Mo_upwards_218 (or01 (by have := zP_01 (V % 2 ^ (upL V + 3400).toNat / 2 ^ (t + 1).toNat ≠ 0); omega) (by omega)) ?_
                    refine lv_istore (lv' := [(8, .int (iI (zP (rs ≠ 0 ∨ V / 2 ^ t.toNat % 2 ≠ 0)))), (10, .int (iI (V / 2 ^ t.toNat % 2))), (9, .int (iI t)), (6, .long (lI vv)), (5, .int (iI (upL V))), (1, .int (iI 1)), (0, .ref (b 0))]) hx hb d_Mo_upwards_219 hl (by decide) rfl (fun ls hl => ?_)
                    refine lv_iinc (v := iI (t + (-1))) (lv' := [(9, .int (iI (t + (-1)))), (8, .int (iI (zP (rs ≠ 0 ∨ V / 2 ^ t.toNat % 2 ≠ 0)))), (10, .int (iI (V / 2 ^ t.toNat % 2))), (6, .long (lI vv)), (5, .int (iI (upL V))), (1, .int (iI 1)), (0, .ref (b 0))]) hx hb d_Mo_upwards_221 hl (k := 2) rfl (iI_add _ _) (by decide) rfl (fun ls hl => ?_)
                    refine lv_goto (tgt := 149) hx hb d_Mo_upwards_224 (by decide) ?_
                    exact ih149 (t + (-1)) vv (zP (rs ≠ 0 ∨ V / 2 ^ t.toNat % 2 ≠ 0)) _ _ ls (by omega) (by rw [hvv, show max (t + 1) (upL V + 3400) = upL V + 3400 by omega, show max (t + (-1) + 1) (upL V + 3400) = upL V + 3400 by omega]) (by rw [show t + (-1) + 1 = t by omega, up_r (c := (upL V + 3400).toNat) (by omega)]; exact up_or hrs (by omega)) (by omega) hP hD hS (lv_sub hl [0, 1, 3, 4, 5, 6] rfl)
                  · refine x_ldc2 hx hb 2 (by decide +kernel) hown (hts _ wk_Mo_159) d_Mo_upwards_192 ?_
                    refine lv_lload hx hb d_Mo_upwards_195 (lv_at hl 3 rfl) ?_
                    refine x_lmul hx hb d_Mo_upwards_197 ?_
                    have K208 : ∀ ls : Array Slot, lv_has ls 12 [(10, .int (iI (V / 2 ^ t.toNat % 2))), (9, .int (iI t)), (8, .int (iI rs)), (6, .long (lI vv)), (5, .int (iI (upL V))), (1, .int (iI 1)), (0, .ref (b 0))] → W p l e (rd 1 23) s m ([.ref (b 0)]).toArray below meth c H locs 0 0 Q (F0 m 208 ls [.long (lI (V / 2 ^ t.toNat % 2)), .long (lI (2 * vv))]) := by
                      intro ls hl
                      refine x_ladd hx hb d_Mo_upwards_208 ?_
                      refine lv_lstore (lv' := [(6, .long (lI ((2 * vv) + (V / 2 ^ t.toNat % 2)))), (10, .int (iI (V / 2 ^ t.toNat % 2))), (9, .int (iI t)), (8, .int (iI rs)), (5, .int (iI (upL V))), (1, .int (iI 1)), (0, .ref (b 0))]) hx hb d_Mo_upwards_209 hl (by decide) rfl (fun ls hl => ?_)
                      refine lv_goto (tgt := 221) hx hb d_Mo_upwards_211 (by decide) ?_
                      refine lv_iinc (v := iI (t + (-1))) (lv' := [(9, .int (iI (t + (-1)))), (6, .long (lI ((2 * vv) + (V / 2 ^ t.toNat % 2)))), (10, .int (iI (V / 2 ^ t.toNat % 2))), (8, .int (iI rs)), (5, .int (iI (upL V))), (1, .int (iI 1)), (0, .ref (b 0))]) hx hb d_Mo_upwards_221 hl (k := 2) rfl (iI_add _ _) (by decide) rfl (fun ls hl => ?_)
                      refine lv_goto (tgt := 149) hx hb d_Mo_upwards_224 (by decide) ?_
                      exact ih149 (t + (-1)) ((2 * vv) + (V / 2 ^ t.toNat % 2)) rs _ _ ls (by omega) (by rw [hvv, show max (t + 1) (upL V + 3400) = t + 1 by omega, show max (t + (-1) + 1) (upL V + 3400) = t by omega]; exact (up_v (by omega)).symm) (by rw [hrs, up_r0 (c := (upL V + 3400).toNat) (t := (t + 1).toNat) (by omega), up_r0 (c := (upL V + 3400).toNat) (t := (t + (-1) + 1).toNat) (by omega)]) (by omega) hP hD hS (lv_sub hl [0, 3, 1, 4, 5, 6] rfl)
                    refine lv_iload hx hb d_Mo_upwards_198 (lv_at hl 0 rfl) ?_
                    refine x_if_eq (tgt := 207) hx hb d_Mo_upwards_200 (by decide) (by omega) (fun c_200 => ?_) (fun c_200 => ?_)
                    · refine lv_lconst (v := lI 0) hx hb d_Mo_upwards_207 (by decide +kernel) ?_
                      refine x_topl _ (V / 2 ^ t.toNat % 2) (by omega) ?_
                      exact K208 ls hl
                    · refine lv_lconst (v := lI 1) hx hb d_Mo_upwards_203 (by decide +kernel) ?_
                      refine lv_goto (tgt := 208) hx hb d_Mo_upwards_204 (by decide) ?_
                      refine x_topl _ (V / 2 ^ t.toNat % 2) (by omega) ?_
                      exact K208 ls hl
                refine x_top (((g (t / 16)) / 2 ^ (t % 16).toNat) % 2) (V / 2 ^ t.toNat % 2) (bit16 hnG hdG (by omega)) ?_
                refine x_if_eq (tgt := 178) hx hb d_Mo_upwards_171 (by decide) (by omega) (fun c_171 => ?_) (fun c_171 => ?_)
                · refine lv_iconst (v := iI 0) hx hb d_Mo_upwards_178 rfl ?_
                  refine x_top _ (V / 2 ^ t.toNat % 2) (by omega) ?_
                  exact K179 ls hl
                · refine lv_iconst (v := iI 1) hx hb d_Mo_upwards_174 rfl ?_
                  refine lv_goto (tgt := 179) hx hb d_Mo_upwards_175 (by decide) ?_
                  refine x_top _ (V / 2 ^ t.toNat % 2) (by omega) ?_
                  exact K179 ls hl
          exact L149 _ (16 * ll V - 1) 0 0 _ _ ls (by omega) (by rw [show 16 * ll V - 1 + 1 = 16 * ll V by omega]; exact up_v0 (by omega) (v_ll hnG hdG)) (by rw [show 16 * ll V - 1 + 1 = 16 * ll V by omega, up_s0 (by omega) (v_ll hnG hdG)]; rfl) (n_lt _) hP hD hS (by rw [show ((16 * ll V - 1) : Int) = (16 * (ll V)) - 1 by omega]; exact lv_sub hl [0, 1, 2, 3, 7, 8] rfl)
        refine lv_iload hx hb d_Mo_upwards_111 (lv_at hl 0 rfl) ?_
        refine lv_bipush (v := iI 52) hx hb d_Mo_upwards_113 (by decide +kernel) ?_
        refine x_isub hx hb d_Mo_upwards_115 ?_
        refine lv_sipush (v := iI (-1074)) hx hb d_Mo_upwards_116 (by decide +kernel) ?_
        refine x_icmp_ge (tgt := 128) hx hb d_Mo_upwards_119 (by decide) (by omega) (by omega) (fun c_119 => ?_) (fun c_119 => ?_)
        · refine lv_iload hx hb d_Mo_upwards_128 (lv_at hl 0 rfl) ?_
          refine lv_bipush (v := iI 52) hx hb d_Mo_upwards_130 (by decide +kernel) ?_
          refine x_isub hx hb d_Mo_upwards_132 ?_
          refine x_top _ (upL V) (by unfold upL; omega) ?_
          exact K133 ls hl
        · refine lv_sipush (v := iI (-1074)) hx hb d_Mo_upwards_122 (by decide +kernel) ?_
          refine lv_goto (tgt := 133) hx hb d_Mo_upwards_125 (by decide) ?_
          refine x_top _ (upL V) (by unfold upL; omega) ?_
          exact K133 ls hl
      · refine lv_iload_n hx hb d_Mo_upwards_28 rfl (lv_at hl 3 rfl) ?_
        refine x_if_le (tgt := 49) hx hb d_Mo_upwards_29 (by decide) (by decide) (fun c_29 => (by exfalso; omega)) (fun c_29 => ?_)
        refine lv_aload_n hx hb d_Mo_upwards_32 rfl (lv_at hl 4 rfl) ?_
        refine va_get (D := D) (ci := 6) (v := .ref (b 18)) (C := R_Mo) (T := F_Mo) (N := 29) hx hb hts i_Mo hown hK hP 1 rfl rfl 24 (by decide) (hts _ wf_Mo_63) (fun _ h9 => h9) rfl d_Mo_upwards_33 ?_
        refine lv_iload hx hb d_Mo_upwards_36 (lv_at hl 0 rfl) ?_
        refine lv_aload_n hx hb d_Mo_upwards_38 rfl (lv_at hl 4 rfl) ?_
        refine va_get (D := D) (ci := 6) (v := .ref (b 16)) (C := R_Mo) (T := F_Mo) (N := 29) hx hb hts i_Mo hown hK hP 1 rfl rfl 22 (by decide) (hts _ wf_Mo_56) (fun _ h9 => h9) rfl d_Mo_upwards_39 ?_
        refine lv_iload hx hb d_Mo_upwards_42 (lv_at hl 0 rfl) ?_
        refine x_iald hx hb hK hP 2 rfl (by omega) (by decide) d_Mo_upwards_44 ?_
        refine x_iast hx hb hK hP hD hS 0 rfl (by omega) (by decide) d_Mo_upwards_45 (fun H locs hP hD hS => ?_)
        have hP : va_P D CL [(b 18, eI aC 1200 (updI g t (f t))), (b 0, .inr (6, [.int (iI er), .int (iI M.rw), .int (iI M.cn), .int (iI M.en), .int (iI M.pr), .double (dM M.ko (-3)), .ref (b 1), .ref (b 2), .ref (b 3), .ref (b 4), .ref (b 5), .ref (b 6), .ref (b 7), .ref (b 8), .ref (b 9), .ref (b 10), .ref (b 11), .ref (b 12), .ref (b 13), .ref (b 14), .ref (b 15), .int (iI p2), .ref (b 16), .ref (b 17), .ref (b 18), .ref (b 19), .ref (b 20), .ref (b 21), .ref (b 22)])), (b 16, eI aC 440 f)] H := hP
        have hD : va_D (aW [(b 18, eI aC 1200 f1), (b 0, .inr (6, [.int (iI er), .int (iI M.rw), .int (iI M.cn), .int (iI M.en), .int (iI M.pr), .double (dM M.ko (-3)), .ref (b 1), .ref (b 2), .ref (b 3), .ref (b 4), .ref (b 5), .ref (b 6), .ref (b 7), .ref (b 8), .ref (b 9), .ref (b 10), .ref (b 11), .ref (b 12), .ref (b 13), .ref (b 14), .ref (b 15), .int (iI p2), .ref (b 16), .ref (b 17), .ref (b 18), .ref (b 19), .ref (b 20), .ref (b 21), .ref (b 22)])), (b 16, eI aC 440 f)]) [(b 18, eI aC 1200 (updI g t (f t))), (b 0, .inr (6, [.int (iI er), .int (iI M.rw), .int (iI M.cn), .int (iI M.en), .int (iI M.pr), .double (dM M.ko (-3)), .ref (b 1), .ref (b 2), .ref (b 3), .ref (b 4), .ref (b 5), .ref (b 6), .ref (b 7), .ref (b 8), .ref (b 9), .ref (b 10), .ref (b 11), .ref (b 12), .ref (b 13), .ref (b 14), .ref (b 15), .int (iI p2), .ref (b 16), .ref (b 17), .ref (b 18), .ref (b 19), .ref (b 20), .ref (b 21), .ref (b 22)])), (b 16, eI aC 440 f)] := hD
        refine lv_goto (tgt := 80) hx hb d_Mo_upwards_46 (by decide) ?_
        refine lv_iinc (v := iI (t + 1)) (lv' := [(4, .int (iI (t + 1))), (3, .int (iI 1)), (2, .int (iI 440)), (1, .int (iI 1)), (0, .ref (b 0))]) hx hb d_Mo_upwards_80 hl (k := 0) rfl (iI_add _ _) (by decide) rfl (fun ls hl => ?_)
        refine lv_goto (tgt := 20) hx hb d_Mo_upwards_83 (by decide) ?_
        exact ih (t + 1) (updI g t (f t)) _ _ ls (by omega) (fun j h1 h2 => by
          by_cases hj : j = t
          · rw [hj, updI_s]
          · rw [updI_n hj]; exact hg j h1 (by omega)) (by omega) hP hD hS (lv_sub hl [0, 1, 2, 3, 4] rfl)
  exact L20 _ 0 f1 _ _ ls (by omega) (fun j h1 h2 => by omega) (n_lt _) hP hD hS (lv_sub hl [0, 1, 2, 3, 4] rfl)
theorem ng_abs {h f : Int → Int} {cy V : Int} (hV : V < 0) (hb7 : -big7 < V ∧ V < big7) (hc : 0 ≤ cy ∧ cy ≤ 1) (hn : nrm 16 h 440) (hf : SumOk f V) (e : dg 16 h 440 + dg 16 f 440 + cy * 2 ^ (16 * 440) = 2 ^ (16 * 440)) : dg 16 h 440 = -V := by
  rw [bigM_16] at e
  obtain ⟨r1, r2⟩ := dg_range 440 hn
  have h1 := (hf.top hb7).2 hV
  have h2 := bigM_7
  have h3 := big7_pos
  rcases (show cy = 0 ∨ cy = 1 by omega) with rfl | rfl
  · omega
  · omega
set_option maxHeartbeats 4000000 in
set_option maxRecDepth 100000 in
theorem c_Mo_upwards_n (l : Launch) (D : va_G) (aC : Nat → ClassId) (b : Nat → Nat) (M : MS) (er p2 : Int) (her : 0 ≤ er ∧ er ≤ 3) (f f1 : Int → Int) (V : Int) (hf : SumOk f V) (hb7 : -big7 < V ∧ V < big7) (hs : V < 0) : CT l D aC y_Mo_upwards (rd 1 23) [.ref (b 0)] [(b 18, eI aC 1200 f1), (b 0, .inr (6, [.int (iI er), .int (iI M.rw), .int (iI M.cn), .int (iI M.en), .int (iI M.pr), .double (dM M.ko (-3)), .ref (b 1), .ref (b 2), .ref (b 3), .ref (b 4), .ref (b 5), .ref (b 6), .ref (b 7), .ref (b 8), .ref (b 9), .ref (b 10), .ref (b 11), .ref (b 12), .ref (b 13), .ref (b 14), .ref (b 15), .int (iI p2), .ref (b 16), .ref (b 17), .ref (b 18), .ref (b 19), .ref (b 20), .ref (b 21), .ref (b 22)])), (b 16, eI aC 440 f)] (fun v w => v = some (.double (if 971 < upL (-V) then dM (-9007199254740991) 971 else dM (upM V) (upL (-V)))) ∧ ∃ g : Int → Int, w = [(b 18, eI aC 1200 g), (b 0, .inr (6, [.int (iI er), .int (iI M.rw), .int (iI M.cn), .int (iI M.en), .int (iI M.pr), .double (dM M.ko (-3)), .ref (b 1), .ref (b 2), .ref (b 3), .ref (b 4), .ref (b 5), .ref (b 6), .ref (b 7), .ref (b 8), .ref (b 9), .ref (b 10), .ref (b 11), .ref (b 12), .ref (b 13), .ref (b 14), .ref (b 15), .int (iI p2), .ref (b 16), .ref (b 17), .ref (b 18), .ref (b 19), .ref (b 20), .ref (b 21), .ref (b 22)])), (b 16, eI aC 440 f)]) := by
  refine CT.of (cc := b_Mo_upwards) (maxL := 12) (ret := (some .double)) (by decide +kernel) k_Mo_upwards (Nat.le_of_ble_eq_true rfl) ?_
  intro p e s m below meth c Q S hr hlocks hQ hK hN hP hD hS ls hl
  obtain ⟨hx, hb, hml, hown, hts⟩ := id S
  have hl : lv_has ls 12 [(0, .ref (b 0))] := hl
  refine lv_aload_n hx hb d_Mo_upwards_0 rfl (lv_at hl 0 rfl) ?_
  refine y_callV1 (V := .int (iI (sgI V))) S (c_Mo_signOfSum l D aC b M er p2 f V hf hb7) t_Mo_152 (rm_ok (by decide) (by decide)) hK hN hP [2, 1] rfl 1 6 rfl rfl rfl hl.1 rfl (Nat.le_of_ble_eq_true rfl) d_Mo_upwards_1 ⟨Nat.zero_le _, Nat.zero_le _⟩ ?_
  refine x_top (sgI V) (-1) (by unfold sgI; rw [if_pos hs]) ?_
  refine lv_istore_n (lv' := [(1, .int (iI (-1))), (0, .ref (b 0))]) hx hb d_Mo_upwards_4 rfl hl (by decide) rfl (fun ls hl => ?_)
  refine lv_sipush (v := iI 440) hx hb d_Mo_upwards_5 (by decide +kernel) ?_
  refine lv_istore_n (lv' := [(2, .int (iI 440)), (1, .int (iI (-1))), (0, .ref (b 0))]) hx hb d_Mo_upwards_8 rfl hl (by decide) rfl (fun ls hl => ?_)
  refine lv_iload_n hx hb d_Mo_upwards_9 rfl (lv_at hl 1 rfl) ?_
  refine x_if_ne (tgt := 15) hx hb d_Mo_upwards_10 (by decide) (by decide) (fun c_10 => ?_) (fun c_10 => (by exfalso; omega))
  refine lv_iconst (v := iI 1) hx hb d_Mo_upwards_15 rfl ?_
  refine lv_istore_n (lv' := [(3, .int (iI 1)), (2, .int (iI 440)), (1, .int (iI (-1))), (0, .ref (b 0))]) hx hb d_Mo_upwards_16 rfl hl (by decide) rfl (fun ls hl => ?_)
  refine lv_iconst (v := iI 0) hx hb d_Mo_upwards_17 rfl ?_
  refine lv_istore (lv' := [(4, .int (iI 0)), (3, .int (iI 1)), (2, .int (iI 440)), (1, .int (iI (-1))), (0, .ref (b 0))]) hx hb d_Mo_upwards_18 hl (by decide) rfl (fun ls hl => ?_)
  have L20 : ∀ (nn : Nat) (t : Int) (cy : Int) (g : Int → Int) (H : Heap) (locs : List Loc) (ls : Array Slot), (0 ≤ t ∧ t ≤ 440) → (0 ≤ cy ∧ cy ≤ 1) → (∀ j : Int, 0 ≤ j → j < t → 0 ≤ g j ∧ g j < 65536) → (dg 16 g t.toNat + dg 16 f t.toNat + cy * 2 ^ (16 * t.toNat) = 2 ^ (16 * t.toNat)) → 440 - t < (nn : Int) → va_P D CL [(b 18, eI aC 1200 g), (b 0, .inr (6, [.int (iI er), .int (iI M.rw), .int (iI M.cn), .int (iI M.en), .int (iI M.pr), .double (dM M.ko (-3)), .ref (b 1), .ref (b 2), .ref (b 3), .ref (b 4), .ref (b 5), .ref (b 6), .ref (b 7), .ref (b 8), .ref (b 9), .ref (b 10), .ref (b 11), .ref (b 12), .ref (b 13), .ref (b 14), .ref (b 15), .int (iI p2), .ref (b 16), .ref (b 17), .ref (b 18), .ref (b 19), .ref (b 20), .ref (b 21), .ref (b 22)])), (b 16, eI aC 440 f)] H → va_D (aW [(b 18, eI aC 1200 f1), (b 0, .inr (6, [.int (iI er), .int (iI M.rw), .int (iI M.cn), .int (iI M.en), .int (iI M.pr), .double (dM M.ko (-3)), .ref (b 1), .ref (b 2), .ref (b 3), .ref (b 4), .ref (b 5), .ref (b 6), .ref (b 7), .ref (b 8), .ref (b 9), .ref (b 10), .ref (b 11), .ref (b 12), .ref (b 13), .ref (b 14), .ref (b 15), .int (iI p2), .ref (b 16), .ref (b 17), .ref (b 18), .ref (b 19), .ref (b 20), .ref (b 21), .ref (b 22)])), (b 16, eI aC 440 f)]) [(b 18, eI aC 1200 g), (b 0, .inr (6, [.int (iI er), .int (iI M.rw), .int (iI M.cn), .int (iI M.en), .int (iI M.pr), .double (dM M.ko (-3)), .ref (b 1), .ref (b 2), .ref (b 3), .ref (b 4), .ref (b 5), .ref (b 6), .ref (b 7), .ref (b 8), .ref (b 9), .ref (b 10), .ref (b 11), .ref (b 12), .ref (b 13), .ref (b 14), .ref (b 15), .int (iI p2), .ref (b 16), .ref (b 17), .ref (b 18), .ref (b 19), .ref (b 20), .ref (b 21), .ref (b 22)])), (b 16, eI aC 440 f)] → va_S (aW [(b 18, eI aC 1200 f1), (b 0, .inr (6, [.int (iI er), .int (iI M.rw), .int (iI M.cn), .int (iI M.en), .int (iI M.pr), .double (dM M.ko (-3)), .ref (b 1), .ref (b 2), .ref (b 3), .ref (b 4), .ref (b 5), .ref (b 6), .ref (b 7), .ref (b 8), .ref (b 9), .ref (b 10), .ref (b 11), .ref (b 12), .ref (b 13), .ref (b 14), .ref (b 15), .int (iI p2), .ref (b 16), .ref (b 17), .ref (b 18), .ref (b 19), .ref (b 20), .ref (b 21), .ref (b 22)])), (b 16, eI aC 440 f)]) s.heap H locs → lv_has ls 12 [(4, .int (iI t)), (3, .int (iI cy)), (2, .int (iI 440)), (1, .int (iI (-1))), (0, .ref (b 0))] → W p l e (rd 1 23) s m ([.ref (b 0)]).toArray below meth c H locs 0 0 Q (F0 m 20 ls []) := by
    intro nn
    induction nn with
    | zero => intro t cy g H locs ls ht hc hr9 hsum hnn; exact absurd hnn (by omega)
    | succ nn ih =>
      intro t cy g H locs ls ht hc hr9 hsum hnn hP hD hS hl
      refine lv_iload hx hb d_Mo_upwards_20 (lv_at hl 0 rfl) ?_
      refine lv_sipush (v := iI 440) hx hb d_Mo_upwards_22 (by decide +kernel) ?_
      refine x_icmp_ge (tgt := 86) hx hb d_Mo_upwards_25 (by decide) (by omega) (by omega) (fun c_25 => ?_) (fun c_25 => ?_)
      · have hnG : nrm 16 g 440 := fun j h1 h2 => by rw [p16]; exact hr9 j h1 (by omega)
        have hdG : dg 16 g 440 = (-V) := ng_abs hs hb7 hc hnG hf (by rw [show t = 440 by omega] at hsum; exact hsum)
        have hB := bits_tp hnG hdG (by omega)
        have ht7 := tp_7 (V := (-V)) (by omega) (by omega)
        have ht0 := (tp_neg (V := (-V)) (by omega)).mpr (by omega)
        have huL : upL (-V) = max (tp (-V) - 3452) (-1074) := rfl
        refine lv_aload_n hx hb d_Mo_upwards_86 rfl (lv_at hl 4 rfl) ?_
        refine va_get (D := D) (ci := 6) (v := .ref (b 18)) (C := R_Mo) (T := F_Mo) (N := 29) hx hb hts i_Mo hown hK hP 1 rfl rfl 24 (by decide) (hts _ wf_Mo_63) (fun _ h9 => h9) rfl d_Mo_upwards_87 ?_
        refine lv_iload_n hx hb d_Mo_upwards_90 rfl (lv_at hl 2 rfl) ?_
        refine y_callS1 (V := .int (iI (trm g (440 : Int).toNat : Int))) S (c_Mo_trim l D aC (b 18) 1200 g 440 (by decide) (by omega) (fun z h1 h2 => by have := hnG z h1 (by omega); rw [p16] at this; exact this)) t_Mo_84 (rm_ok (by decide) (by decide)) hK hN hP [0] rfl rfl hl.1 rfl (Nat.le_of_ble_eq_true rfl) d_Mo_upwards_91 ⟨Nat.zero_le _, Nat.zero_le _⟩ ?_
        refine x_top (trm g (440 : Int).toNat : Int) (ll (-V)) (by rw [show ((440 : Int)).toNat = 440 from rfl, trm_ll hnG, hdG]) ?_
        refine lv_istore_n (lv' := [(2, .int (iI (ll (-V)))), (4, .int (iI t)), (3, .int (iI cy)), (1, .int (iI (-1))), (0, .ref (b 0))]) hx hb d_Mo_upwards_94 rfl hl (by decide) rfl (fun ls hl => ?_)
        refine lv_aload_n hx hb d_Mo_upwards_95 rfl (lv_at hl 4 rfl) ?_
        refine va_get (D := D) (ci := 6) (v := .ref (b 18)) (C := R_Mo) (T := F_Mo) (N := 29) hx hb hts i_Mo hown hK hP 1 rfl rfl 24 (by decide) (hts _ wf_Mo_63) (fun _ h9 => h9) rfl d_Mo_upwards_96 ?_
        refine lv_iload_n hx hb d_Mo_upwards_99 rfl (lv_at hl 0 rfl) ?_
        refine y_callS1 (V := .int (iI (if ll (-V) = 0 then 0 else 16 * (ll (-V) - 1) + tp (g (ll (-V) - 1)) + 1))) S (c_Mo_bits l D aC (b 18) 1200 g (ll (-V)) (by decide) (by omega) (hB.2.2.1)) t_Mo_156 (rm_ok (by decide) (by decide)) hK hN hP [0] rfl rfl hl.1 rfl (Nat.le_of_ble_eq_true rfl) d_Mo_upwards_100 ⟨Nat.zero_le _, Nat.zero_le _⟩ ?_
        refine x_top (if ll (-V) = 0 then 0 else 16 * (ll (-V) - 1) + tp (g (ll (-V) - 1)) + 1) (tp (-V) + 1) (by rw [if_neg (by omega)]; omega) ?_
        refine lv_iconst (v := iI 1) hx hb d_Mo_upwards_103 rfl ?_
        refine x_isub hx hb d_Mo_upwards_104 ?_
        refine lv_sipush (v := iI (-3400)) hx hb d_Mo_upwards_105 (by decide +kernel) ?_
        refine x_iadd hx hb d_Mo_upwards_108 ?_
        refine lv_istore (lv' := [(4, .int (iI (((tp (-V) + 1) - 1) + (-3400)))), (2, .int (iI (ll (-V)))), (3, .int (iI cy)), (1, .int (iI (-1))), (0, .ref (b 0))]) hx hb d_Mo_upwards_109 hl (by decide) rfl (fun ls hl => ?_)
        have K133 : ∀ ls : Array Slot, lv_has ls 12 [(4, .int (iI (((tp (-V) + 1) - 1) + (-3400)))), (2, .int (iI (ll (-V)))), (3, .int (iI cy)), (1, .int (iI (-1))), (0, .ref (b 0))] → W p l e (rd 1 23) s m ([.ref (b 0)]).toArray below meth c H locs 0 0 Q (F0 m 133 ls [.int (iI (upL (-V)))]) := by
          intro ls hl
          refine lv_istore (lv' := [(5, .int (iI (upL (-V)))), (4, .int (iI (((tp (-V) + 1) - 1) + (-3400)))), (2, .int (iI (ll (-V)))), (3, .int (iI cy)), (1, .int (iI (-1))), (0, .ref (b 0))]) hx hb d_Mo_upwards_133 hl (by decide) rfl (fun ls hl => ?_)
          refine lv_lconst (v := lI 0) hx hb d_Mo_upwards_135 (by decide +kernel) ?_
          refine lv_lstore (lv' := [(6, .long (lI 0)), (5, .int (iI (upL (-V)))), (4, .int (iI (((tp (-V) + 1) - 1) + (-3400)))), (2, .int (iI (ll (-V)))), (3, .int (iI cy)), (1, .int (iI (-1))), (0, .ref (b 0))]) hx hb d_Mo_upwards_136 hl (by decide) rfl (fun ls hl => ?_)
          refine lv_iconst (v := iI 0) hx hb d_Mo_upwards_138 rfl ?_
          refine lv_istore (lv' := [(8, .int (iI 0)), (6, .long (lI 0)), (5, .int (iI (upL (-V)))), (4, .int (iI (((tp (-V) + 1) - 1) + (-3400)))), (2, .int (iI (ll (-V)))), (3, .int (iI cy)), (1, .int (iI (-1))), (0, .ref (b 0))]) hx hb d_Mo_upwards_139 hl (by decide) rfl (fun ls hl => ?_)
          refine lv_bipush (v := iI 16) hx hb d_Mo_upwards_141 (by decide +kernel) ?_
          refine lv_iload_n hx hb d_Mo_upwards_143 rfl (lv_at hl 4 rfl) ?_
          refine x_imul hx hb d_Mo_upwards_144 ?_
          refine lv_iconst (v := iI 1) hx hb d_Mo_upwards_145 rfl ?_
          refine x_isub hx hb d_Mo_upwards_146 ?_
          refine lv_istore (lv' := [(9, .int (iI ((16 * (ll (-V))) - 1))), (8, .int (iI 0)), (6, .long (lI 0)), (5, .int (iI (upL (-V)))), (4, .int (iI (((tp (-V) + 1) - 1) + (-3400)))), (2, .int (iI (ll (-V)))), (3, .int (iI cy)), (1, .int (iI (-1))), (0, .ref (b 0))]) hx hb d_Mo_upwards_147 hl (by decide) rfl (fun ls hl => ?_)
          have L149 : ∀ (nn : Nat) (t : Int) (vv : Int) (rs : Int) (H : Heap) (locs : List Loc) (ls : Array Slot), (-1 ≤ t ∧ t < 16 * ll (-V)) → (vv = (-V) / 2 ^ (max (t + 1) (upL (-V) + 3400)).toNat) → (rs = zP ((-V) % 2 ^ (upL (-V) + 3400).toNat / 2 ^ (t + 1).toNat ≠ 0)) → t + 1 < (nn : Int) → va_P D CL [(b 18, eI aC 1200 g), (b 0, .inr (6, [.int (iI er), .int (iI M.rw), .int (iI M.cn), .int (iI M.en), .int (iI M.pr), .double (dM M.ko (-3)), .ref (b 1), .ref (b 2), .ref (b 3), .ref (b 4), .ref (b 5), .ref (b 6), .ref (b 7), .ref (b 8), .ref (b 9), .ref (b 10), .ref (b 11), .ref (b 12), .ref (b 13), .ref (b 14), .ref (b 15), .int (iI p2), .ref (b 16), .ref (b 17), .ref (b 18), .ref (b 19), .ref (b 20), .ref (b 21), .ref (b 22)])), (b 16, eI aC 440 f)] H → va_D (aW [(b 18, eI aC 1200 f1), (b 0, .inr (6, [.int (iI er), .int (iI M.rw), .int (iI M.cn), .int (iI M.en), .int (iI M.pr), .double (dM M.ko (-3)), .ref (b 1), .ref (b 2), .ref (b 3), .ref (b 4), .ref (b 5), .ref (b 6), .ref (b 7), .ref (b 8), .ref (b 9), .ref (b 10), .ref (b 11), .ref (b 12), .ref (b 13), .ref (b 14), .ref (b 15), .int (iI p2), .ref (b 16), .ref (b 17), .ref (b 18), .ref (b 19), .ref (b 20), .ref (b 21), .ref (b 22)])), (b 16, eI aC 440 f)]) [(b 18, eI aC 1200 g), (b 0, .inr (6, [.int (iI er), .int (iI M.rw), .int (iI M.cn), .int (iI M.en), .int (iI M.pr), .double (dM M.ko (-3)), .ref (b 1), .ref (b 2), .ref (b 3), .ref (b 4), .ref (b 5), .ref (b 6), .ref (b 7), .ref (b 8), .ref (b 9), .ref (b 10), .ref (b 11), .ref (b 12), .ref (b 13), .ref (b 14), .ref (b 15), .int (iI p2), .ref (b 16), .ref (b 17), .ref (b 18), .ref (b 19), .ref (b 20), .ref (b 21), .ref (b 22)])), (b 16, eI aC 440 f)] → va_S (aW [(b 18, eI aC 1200 f1), (b 0, .inr (6, [.int (iI er), .int (iI M.rw), .int (iI M.cn), .int (iI M.en), .int (iI M.pr), .double (dM M.ko (-3)), .ref (b 1), .ref (b 2), .ref (b 3), .ref (b 4), .ref (b 5), .ref (b 6), .ref (b 7), .ref (b 8), .ref (b 9), .ref (b 10), .ref (b 11), .ref (b 12), .ref (b 13), .ref (b 14), .ref (b 15), .int (iI p2), .ref (b 16), .ref (b 17), .ref (b 18), .ref (b 19), .ref (b 20), .ref (b 21), .ref (b 22)])), (b 16, eI aC 440 f)]) s.heap H locs → lv_has ls 12 [(9, .int (iI t)), (8, .int (iI rs)), (6, .long (lI vv)), (5, .int (iI (upL (-V)))), (1, .int (iI (-1))), (0, .ref (b 0))] → W p l e (rd 1 23) s m ([.ref (b 0)]).toArray below meth c H locs 0 0 Q (F0 m 149 ls []) := by
            intro nn149
            induction nn149 with
            | zero => intro t vv rs H locs ls ht hvv hrs hnn149; exact absurd hnn149 (by omega)
            | succ nn149 ih149 =>
              intro t vv rs H locs ls ht hvv hrs hnn149 hP hD hS hl
              refine lv_iload hx hb d_Mo_upwards_149 (lv_at hl 0 rfl) ?_
              refine x_if_lt (tgt := 227) hx hb d_Mo_upwards_151 (by decide) (by omega) (fun c_151 => ?_) (fun c_151 => ?_)
              · have hvv1 : vv = (-V) / 2 ^ (upL (-V) + 3400).toNat := by rw [hvv, show max (t + 1) (upL (-V) + 3400) = upL (-V) + 3400 by omega]
                have huM : upM V = -vv := by unfold upM; rw [if_pos hs, hvv1, show (V.natAbs : Int) = (-V) by omega]
                have hul := up_lt (V := (-V)) (by omega)
                rw [← hvv1] at hul
                refine lv_iload_n hx hb d_Mo_upwards_227 rfl (lv_at hl 4 rfl) ?_
                refine x_if_le (tgt := 242) hx hb d_Mo_upwards_228 (by decide) (by decide) (fun c_228 => ?_) (fun c_228 => (by exfalso; omega))
                refine lv_iload_n hx hb d_Mo_upwards_242 rfl (lv_at hl 4 rfl) ?_
                refine x_if_le (tgt := 280) hx hb d_Mo_upwards_243 (by decide) (by decide) (fun c_243 => ?_) (fun c_243 => (by exfalso; omega))
                refine lv_iload hx hb d_Mo_upwards_280 (lv_at hl 3 rfl) ?_
                refine lv_sipush (v := iI 971) hx hb d_Mo_upwards_282 (by decide +kernel) ?_
                refine x_icmp_le (tgt := 292) hx hb d_Mo_upwards_285 (by decide) (by omega) (by omega) (fun c_285 => ?_) (fun c_285 => ?_)
                · refine lv_lload hx hb d_Mo_upwards_292 (lv_at hl 2 rfl) ?_
                  refine x_l2d hx hb d_Mo_upwards_294 (by omega) ?_
                  refine lv_dstore (lv' := [(9, .double (dM vv 0)), (8, .int (iI rs)), (6, .long (lI vv)), (5, .int (iI (upL (-V)))), (1, .int (iI (-1))), (0, .ref (b 0))]) hx hb d_Mo_upwards_295 hl (by decide) rfl (fun ls hl => ?_)
                  refine lv_iconst (v := iI 0) hx hb d_Mo_upwards_297 rfl ?_
                  refine lv_istore (lv' := [(11, .int (iI 0)), (9, .double (dM vv 0)), (8, .int (iI rs)), (6, .long (lI vv)), (5, .int (iI (upL (-V)))), (1, .int (iI (-1))), (0, .ref (b 0))]) hx hb d_Mo_upwards_298 hl (by decide) rfl (fun ls hl => ?_)
                  have L300 : ∀ (nn : Nat) (u : Int) (H : Heap) (locs : List Loc) (ls : Array Slot), (0 ≤ u ∧ (u ≤ upL (-V) ∨ u = 0)) → 2000 - u < (nn : Int) → va_P D CL [(b 18, eI aC 1200 g), (b 0, .inr (6, [.int (iI er), .int (iI M.rw), .int (iI M.cn), .int (iI M.en), .int (iI M.pr), .double (dM M.ko (-3)), .ref (b 1), .ref (b 2), .ref (b 3), .ref (b 4), .ref (b 5), .ref (b 6), .ref (b 7), .ref (b 8), .ref (b 9), .ref (b 10), .ref (b 11), .ref (b 12), .ref (b 13), .ref (b 14), .ref (b 15), .int (iI p2), .ref (b 16), .ref (b 17), .ref (b 18), .ref (b 19), .ref (b 20), .ref (b 21), .ref (b 22)])), (b 16, eI aC 440 f)] H → va_D (aW [(b 18, eI aC 1200 f1), (b 0, .inr (6, [.int (iI er), .int (iI M.rw), .int (iI M.cn), .int (iI M.en), .int (iI M.pr), .double (dM M.ko (-3)), .ref (b 1), .ref (b 2), .ref (b 3), .ref (b 4), .ref (b 5), .ref (b 6), .ref (b 7), .ref (b 8), .ref (b 9), .ref (b 10), .ref (b 11), .ref (b 12), .ref (b 13), .ref (b 14), .ref (b 15), .int (iI p2), .ref (b 16), .ref (b 17), .ref (b 18), .ref (b 19), .ref (b 20), .ref (b 21), .ref (b 22)])), (b 16, eI aC 440 f)]) [(b 18, eI aC 1200 g), (b 0, .inr (6, [.int (iI er), .int (iI M.rw), .int (iI M.cn), .int (iI M.en), .int (iI M.pr), .double (dM M.ko (-3)), .ref (b 1), .ref (b 2), .ref (b 3), .ref (b 4), .ref (b 5), .ref (b 6), .ref (b 7), .ref (b 8), .ref (b 9), .ref (b 10), .ref (b 11), .ref (b 12), .ref (b 13), .ref (b 14), .ref (b 15), .int (iI p2), .ref (b 16), .ref (b 17), .ref (b 18), .ref (b 19), .ref (b 20), .ref (b 21), .ref (b 22)])), (b 16, eI aC 440 f)] → va_S (aW [(b 18, eI aC 1200 f1), (b 0, .inr (6, [.int (iI er), .int (iI M.rw), .int (iI M.cn), .int (iI M.en), .int (iI M.pr), .double (dM M.ko (-3)), .ref (b 1), .ref (b 2), .ref (b 3), .ref (b 4), .ref (b 5), .ref (b 6), .ref (b 7), .ref (b 8), .ref (b 9), .ref (b 10), .ref (b 11), .ref (b 12), .ref (b 13), .ref (b 14), .ref (b 15), .int (iI p2), .ref (b 16), .ref (b 17), .ref (b 18), .ref (b 19), .ref (b 20), .ref (b 21), .ref (b 22)])), (b 16, eI aC 440 f)]) s.heap H locs → lv_has ls 12 [(11, .int (iI u)), (9, .double (dM vv u)), (5, .int (iI (upL (-V)))), (1, .int (iI (-1)))] → W p l e (rd 1 23) s m ([.ref (b 0)]).toArray below meth c H locs 0 0 Q (F0 m 300 ls []) := by
                    intro nn300
                    induction nn300 with
                    | zero => intro u H locs ls hu hnn300; exact absurd hnn300 (by omega)
                    | succ nn300 ih300 =>
                      intro u H locs ls hu hnn300 hP hD hS hl
                      refine lv_iload hx hb d_Mo_upwards_300 (lv_at hl 0 rfl) ?_
                      refine lv_iload hx hb d_Mo_upwards_302 (lv_at hl 2 rfl) ?_
                      refine x_icmp_ge (tgt := 321) hx hb d_Mo_upwards_304 (by decide) (by omega) (by omega) (fun c_304 => ?_) (fun c_304 => ?_)
                      · refine lv_iconst (v := iI 0) hx hb d_Mo_upwards_321 rfl ?_
                        refine lv_istore (lv' := [(11, .int (iI 0)), (9, .double (dM vv u)), (5, .int (iI (upL (-V)))), (1, .int (iI (-1)))]) hx hb d_Mo_upwards_322 hl (by decide) rfl (fun ls hl => ?_)
                        have L324 : ∀ (nn : Nat) (x : Int) (H : Heap) (locs : List Loc) (ls : Array Slot), (x ≤ 0 ∧ (upL (-V) ≤ x ∨ x = 0)) → x + 2000 < (nn : Int) → va_P D CL [(b 18, eI aC 1200 g), (b 0, .inr (6, [.int (iI er), .int (iI M.rw), .int (iI M.cn), .int (iI M.en), .int (iI M.pr), .double (dM M.ko (-3)), .ref (b 1), .ref (b 2), .ref (b 3), .ref (b 4), .ref (b 5), .ref (b 6), .ref (b 7), .ref (b 8), .ref (b 9), .ref (b 10), .ref (b 11), .ref (b 12), .ref (b 13), .ref (b 14), .ref (b 15), .int (iI p2), .ref (b 16), .ref (b 17), .ref (b 18), .ref (b 19), .ref (b 20), .ref (b 21), .ref (b 22)])), (b 16, eI aC 440 f)] H → va_D (aW [(b 18, eI aC 1200 f1), (b 0, .inr (6, [.int (iI er), .int (iI M.rw), .int (iI M.cn), .int (iI M.en), .int (iI M.pr), .double (dM M.ko (-3)), .ref (b 1), .ref (b 2), .ref (b 3), .ref (b 4), .ref (b 5), .ref (b 6), .ref (b 7), .ref (b 8), .ref (b 9), .ref (b 10), .ref (b 11), .ref (b 12), .ref (b 13), .ref (b 14), .ref (b 15), .int (iI p2), .ref (b 16), .ref (b 17), .ref (b 18), .ref (b 19), .ref (b 20), .ref (b 21), .ref (b 22)])), (b 16, eI aC 440 f)]) [(b 18, eI aC 1200 g), (b 0, .inr (6, [.int (iI er), .int (iI M.rw), .int (iI M.cn), .int (iI M.en), .int (iI M.pr), .double (dM M.ko (-3)), .ref (b 1), .ref (b 2), .ref (b 3), .ref (b 4), .ref (b 5), .ref (b 6), .ref (b 7), .ref (b 8), .ref (b 9), .ref (b 10), .ref (b 11), .ref (b 12), .ref (b 13), .ref (b 14), .ref (b 15), .int (iI p2), .ref (b 16), .ref (b 17), .ref (b 18), .ref (b 19), .ref (b 20), .ref (b 21), .ref (b 22)])), (b 16, eI aC 440 f)] → va_S (aW [(b 18, eI aC 1200 f1), (b 0, .inr (6, [.int (iI er), .int (iI M.rw), .int (iI M.cn), .int (iI M.en), .int (iI M.pr), .double (dM M.ko (-3)), .ref (b 1), .ref (b 2), .ref (b 3), .ref (b 4), .ref (b 5), .ref (b 6), .ref (b 7), .ref (b 8), .ref (b 9), .ref (b 10), .ref (b 11), .ref (b 12), .ref (b 13), .ref (b 14), .ref (b 15), .int (iI p2), .ref (b 16), .ref (b 17), .ref (b 18), .ref (b 19), .ref (b 20), .ref (b 21), .ref (b 22)])), (b 16, eI aC 440 f)]) s.heap H locs → lv_has ls 12 [(11, .int (iI x)), (9, .double (dM vv (u + x))), (5, .int (iI (upL (-V)))), (1, .int (iI (-1)))] → W p l e (rd 1 23) s m ([.ref (b 0)]).toArray below meth c H locs 0 0 Q (F0 m 324 ls []) := by
                          intro nn324
                          induction nn324 with
                          | zero => intro x H locs ls hx9 hnn324; exact absurd hnn324 (by omega)
                          | succ nn324 ih324 =>
                            intro x H locs ls hx9 hnn324 hP hD hS hl
                            refine lv_iload hx hb d_Mo_upwards_324 (lv_at hl 0 rfl) ?_
                            refine lv_iload hx hb d_Mo_upwards_326 (lv_at hl 2 rfl) ?_
                            refine x_icmp_le (tgt := 345) hx hb d_Mo_upwards_328 (by decide) (by omega) (by omega) (fun c_328 => ?_) (fun c_328 => ?_)
                            · refine lv_iload_n hx hb d_Mo_upwards_345 rfl (lv_at hl 3 rfl) ?_
                              refine x_if_ge (tgt := 356) hx hb d_Mo_upwards_346 (by decide) (by decide) (fun c_346 => (by exfalso; omega)) (fun c_346 => ?_)
                              refine x_dconst0 hx hb d_Mo_upwards_349 ?_
                              refine lv_dload hx hb d_Mo_upwards_350 (lv_at hl 1 rfl) ?_
                              refine x_dsub0 hx hb d_Mo_upwards_352 (by unfold dOk; omega) ?_
                              refine lv_goto (tgt := 358) hx hb d_Mo_upwards_353 (by decide) ?_
                              exact x_dret hx hb hr hlocks hQ (⟨by rw [if_neg (by omega), show u + x = upL (-V) by omega, huM], g, rfl⟩) rfl hP hS d_Mo_upwards_358
                            · refine lv_dload hx hb d_Mo_upwards_331 (lv_at hl 1 rfl) ?_
                              refine x_ldc2d hx hb 1 (-1) (by decide +kernel) hown (hts _ wk_Mo_94) d_Mo_upwards_333 ?_
                              refine x_dmul1 hx hb d_Mo_upwards_336 (by unfold dOk; omega) (by unfold dOk; omega) (by unfold dOk; omega) ?_
                              refine lv_dstore (lv' := [(9, .double (dM vv ((u + x) + (-1)))), (11, .int (iI x)), (5, .int (iI (upL (-V)))), (1, .int (iI (-1)))]) hx hb d_Mo_upwards_337 hl (by decide) rfl (fun ls hl => ?_)
                              refine lv_iinc (v := iI (x + (-1))) (lv' := [(11, .int (iI (x + (-1)))), (9, .double (dM vv ((u + x) + (-1)))), (5, .int (iI (upL (-V)))), (1, .int (iI (-1)))]) hx hb d_Mo_upwards_339 hl (k := 1) rfl (iI_add _ _) (by decide) rfl (fun ls hl => ?_)
                              refine lv_goto (tgt := 324) hx hb d_Mo_upwards_342 (by decide) ?_
                              exact ih324 (x + (-1)) _ _ ls (by omega) (by omega) hP hD hS (by rw [show (u + (x + (-1)) : Int) = (u + x) + (-1) by omega]; exact lv_sub hl [0, 1, 2, 3] rfl)
                        exact L324 _ 0 _ _ ls (by omega) (n_lt _) hP hD hS (by rw [show (u + 0 : Int) = u by omega]; exact lv_sub hl [0, 1, 2, 3] rfl)
                      · refine lv_dload hx hb d_Mo_upwards_307 (lv_at hl 1 rfl) ?_
                        refine x_ldc2d hx hb 1 1 (by decide +kernel) hown (hts _ wk_Mo_98) d_Mo_upwards_309 ?_
                        refine x_dmul1 hx hb d_Mo_upwards_312 (by unfold dOk; omega) (by unfold dOk; omega) (by unfold dOk; omega) ?_
                        refine lv_dstore (lv' := [(9, .double (dM vv (u + 1))), (11, .int (iI u)), (5, .int (iI (upL (-V)))), (1, .int (iI (-1)))]) hx hb d_Mo_upwards_313 hl (by decide) rfl (fun ls hl => ?_)
                        refine lv_iinc (v := iI (u + 1)) (lv' := [(11, .int (iI (u + 1))), (9, .double (dM vv (u + 1))), (5, .int (iI (upL (-V)))), (1, .int (iI (-1)))]) hx hb d_Mo_upwards_315 hl (k := 1) rfl (iI_add _ _) (by decide) rfl (fun ls hl => ?_)
                        refine lv_goto (tgt := 300) hx hb d_Mo_upwards_318 (by decide) ?_
                        exact ih300 (u + 1) _ _ ls (by omega) (by omega) hP hD hS (lv_sub hl [0, 1, 2, 3] rfl)
                  exact L300 _ 0 _ _ ls (by omega) (n_lt _) hP hD hS (lv_sub hl [0, 1, 4, 5] rfl)
                · refine x_ldc2d hx hb (-9007199254740991) 971 (by decide +kernel) hown (hts _ wk_Mo_163) d_Mo_upwards_288 ?_
                  exact x_dret hx hb hr hlocks hQ (⟨by rw [if_pos (by omega)], g, rfl⟩) rfl hP hS d_Mo_upwards_291
              · refine lv_aload_n hx hb d_Mo_upwards_154 rfl (lv_at hl 5 rfl) ?_
                refine va_get (D := D) (ci := 6) (v := .ref (b 18)) (C := R_Mo) (T := F_Mo) (N := 29) hx hb hts i_Mo hown hK hP 1 rfl rfl 24 (by decide) (hts _ wf_Mo_63) (fun _ h9 => h9) rfl d_Mo_upwards_155 ?_
                refine lv_iload hx hb d_Mo_upwards_158 (lv_at hl 0 rfl) ?_
                refine lv_iconst (v := iI 4) hx hb d_Mo_upwards_160 rfl ?_
                refine x_ishr hx hb d_Mo_upwards_161 (by omega) (by omega) ?_
                refine x_top _ (t / 16) rfl ?_
                have hgr := hnG (t / 16) (by omega) (by omega)
                rw [p16] at hgr
                refine x_iald hx hb hK hP 0 rfl (by omega) (by decide) d_Mo_upwards_162 ?_
                refine lv_iload hx hb d_Mo_upwards_163 (lv_at hl 0 rfl) ?_
                refine lv_bipush (v := iI 15) hx hb d_Mo_upwards_165 (by decide +kernel) ?_
                refine x_iand (v := (t % 16)) hx hb d_Mo_upwards_167 (iI_m4 _) ?_
                refine x_ishr hx hb d_Mo_upwards_168 (by omega) (by omega) ?_
                refine lv_iconst (v := iI 1) hx hb d_Mo_upwards_169 rfl ?_
                refine x_iand (v := (((g (t / 16)) / 2 ^ (t % 16).toNat) % 2)) hx hb d_Mo_upwards_170 (iI_m1 _) ?_
                have K179 : ∀ ls : Array Slot, lv_has ls 12 [(9, .int (iI t)), (8, .int (iI rs)), (6, .long (lI vv)), (5, .int (iI (upL (-V)))), (1, .int (iI (-1))), (0, .ref (b 0))] → W p l e (rd 1 23) s m ([.ref (b 0)]).toArray below meth c H locs 0 0 Q (F0 m 179 ls [.int (iI ((-V) / 2 ^ t.toNat % 2))]) := by
                  intro ls hl
                  refine lv_istore (lv' := [(10, .int (iI ((-V) / 2 ^ t.toNat % 2))), (9, .int (iI t)), (8, .int (iI rs)), (6, .long (lI vv)), (5, .int (iI (upL (-V)))), (1, .int (iI (-1))), (0, .ref (b 0))]) hx hb d_Mo_upwards_179 hl (by decide) rfl (fun ls hl => ?_)
                  refine lv_iload hx hb d_Mo_upwards_181 (lv_at hl 1 rfl) ?_
                  refine lv_sipush (v := iI (-3400)) hx hb d_Mo_upwards_183 (by decide +kernel) ?_
                  refine x_iadd hx hb d_Mo_upwards_186 ?_
                  refine lv_iload hx hb d_Mo_upwards_187 (lv_at hl 4 rfl) ?_
                  refine x_icmp_lt (tgt := 214) hx hb d_Mo_upwards_189 (by decide) (by omega) (by omega) (fun c_189 => ?_) (fun c_189 => ?_)
                  · refine lv_iload hx hb d_Mo_upwards_214 (lv_at hl 2 rfl) ?_
                    refine lv_iload hx hb d_Mo_upwards_216 (lv_at hl 0 rfl) ?_
                    refine x_ior (v := (zP (rs ≠ 0 ∨ (-V) / 2 ^ t.toNat % 2 ≠ 0))) hx hb d_Mo_upwards_218 (or01 (by have := zP_01 ((-V) % 2 ^ (upL (-V) + 3400).toNat / 2 ^ (t + 1).toNat ≠ 0); omega) (by omega)) ?_
                    refine lv_istore (lv' := [(8, .int (iI (zP (rs ≠ 0 ∨ (-V) / 2 ^ t.toNat % 2 ≠ 0)))), (10, .int (iI ((-V) / 2 ^ t.toNat % 2))), (9, .int (iI t)), (6, .long (lI vv)), (5, .int (iI (upL (-V)))), (1, .int (iI (-1))), (0, .ref (b 0))]) hx hb d_Mo_upwards_219 hl (by decide) rfl (fun ls hl => ?_)
                    refine lv_iinc (v := iI (t + (-1))) (lv' := [(9, .int (iI (t + (-1)))), (8, .int (iI (zP (rs ≠ 0 ∨ (-V) / 2 ^ t.toNat % 2 ≠ 0)))), (10, .int (iI ((-V) / 2 ^ t.toNat % 2))), (6, .long (lI vv)), (5, .int (iI (upL (-V)))), (1, .int (iI (-1))), (0, .ref (b 0))]) hx hb d_Mo_upwards_221 hl (k := 2) rfl (iI_add _ _) (by decide) rfl (fun ls hl => ?_)
                    refine lv_goto (tgt := 149) hx hb d_Mo_upwards_224 (by decide) ?_
                    exact ih149 (t + (-1)) vv (zP (rs ≠ 0 ∨ (-V) / 2 ^ t.toNat % 2 ≠ 0)) _ _ ls (by omega) (by rw [hvv, show max (t + 1) (upL (-V) + 3400) = upL (-V) + 3400 by omega, show max (t + (-1) + 1) (upL (-V) + 3400) = upL (-V) + 3400 by omega]) (by rw [show t + (-1) + 1 = t by omega, up_r (c := (upL (-V) + 3400).toNat) (by omega)]; exact up_or hrs (by omega)) (by omega) hP hD hS (lv_sub hl [0, 1, 3, 4, 5, 6] rfl)
                  · refine x_ldc2 hx hb 2 (by decide +kernel) hown (hts _ wk_Mo_159) d_Mo_upwards_192 ?_
                    refine lv_lload hx hb d_Mo_upwards_195 (lv_at hl 3 rfl) ?_
                    refine x_lmul hx hb d_Mo_upwards_197 ?_
                    have K208 : ∀ ls : Array Slot, lv_has ls 12 [(10, .int (iI ((-V) / 2 ^ t.toNat % 2))), (9, .int (iI t)), (8, .int (iI rs)), (6, .long (lI vv)), (5, .int (iI (upL (-V)))), (1, .int (iI (-1))), (0, .ref (b 0))] → W p l e (rd 1 23) s m ([.ref (b 0)]).toArray below meth c H locs 0 0 Q (F0 m 208 ls [.long (lI ((-V) / 2 ^ t.toNat % 2)), .long (lI (2 * vv))]) := by
                      intro ls hl
                      refine x_ladd hx hb d_Mo_upwards_208 ?_
                      refine lv_lstore (lv' := [(6, .long (lI ((2 * vv) + ((-V) / 2 ^ t.toNat % 2)))), (10, .int (iI ((-V) / 2 ^ t.toNat % 2))), (9, .int (iI t)), (8, .int (iI rs)), (5, .int (iI (upL (-V)))), (1, .int (iI (-1))), (0, .ref (b 0))]) hx hb d_Mo_upwards_209 hl (by decide) rfl (fun ls hl => ?_)
                      refine lv_goto (tgt := 221) hx hb d_Mo_upwards_211 (by decide) ?_
                      refine lv_iinc (v := iI (t + (-1))) (lv' := [(9, .int (iI (t + (-1)))), (6, .long (lI ((2 * vv) + ((-V) / 2 ^ t.toNat % 2)))), (10, .int (iI ((-V) / 2 ^ t.toNat % 2))), (8, .int (iI rs)), (5, .int (iI (upL (-V)))), (1, .int (iI (-1))), (0, .ref (b 0))]) hx hb d_Mo_upwards_221 hl (k := 2) rfl (iI_add _ _) (by decide) rfl (fun ls hl => ?_)
                      refine lv_goto (tgt := 149) hx hb d_Mo_upwards_224 (by decide) ?_
                      exact ih149 (t + (-1)) ((2 * vv) + ((-V) / 2 ^ t.toNat % 2)) rs _ _ ls (by omega) (by rw [hvv, show max (t + 1) (upL (-V) + 3400) = t + 1 by omega, show max (t + (-1) + 1) (upL (-V) + 3400) = t by omega]; exact (up_v (by omega)).symm) (by rw [hrs, up_r0 (c := (upL (-V) + 3400).toNat) (t := (t + 1).toNat) (by omega), up_r0 (c := (upL (-V) + 3400).toNat) (t := (t + (-1) + 1).toNat) (by omega)]) (by omega) hP hD hS (lv_sub hl [0, 3, 1, 4, 5, 6] rfl)
                    refine lv_iload hx hb d_Mo_upwards_198 (lv_at hl 0 rfl) ?_
                    refine x_if_eq (tgt := 207) hx hb d_Mo_upwards_200 (by decide) (by omega) (fun c_200 => ?_) (fun c_200 => ?_)
                    · refine lv_lconst (v := lI 0) hx hb d_Mo_upwards_207 (by decide +kernel) ?_
                      refine x_topl _ ((-V) / 2 ^ t.toNat % 2) (by omega) ?_
                      exact K208 ls hl
                    · refine lv_lconst (v := lI 1) hx hb d_Mo_upwards_203 (by decide +kernel) ?_
                      refine lv_goto (tgt := 208) hx hb d_Mo_upwards_204 (by decide) ?_
                      refine x_topl _ ((-V) / 2 ^ t.toNat % 2) (by omega) ?_
                      exact K208 ls hl
                refine x_top (((g (t / 16)) / 2 ^ (t % 16).toNat) % 2) ((-V) / 2 ^ t.toNat % 2) (bit16 hnG hdG (by omega)) ?_
                refine x_if_eq (tgt := 178) hx hb d_Mo_upwards_171 (by decide) (by omega) (fun c_171 => ?_) (fun c_171 => ?_)
                · refine lv_iconst (v := iI 0) hx hb d_Mo_upwards_178 rfl ?_
                  refine x_top _ ((-V) / 2 ^ t.toNat % 2) (by omega) ?_
                  exact K179 ls hl
                · refine lv_iconst (v := iI 1) hx hb d_Mo_upwards_174 rfl ?_
                  refine lv_goto (tgt := 179) hx hb d_Mo_upwards_175 (by decide) ?_
                  refine x_top _ ((-V) / 2 ^ t.toNat % 2) (by omega) ?_
                  exact K179 ls hl
          exact L149 _ (16 * ll (-V) - 1) 0 0 _ _ ls (by omega) (by rw [show 16 * ll (-V) - 1 + 1 = 16 * ll (-V) by omega]; exact up_v0 (by omega) (v_ll hnG hdG)) (by rw [show 16 * ll (-V) - 1 + 1 = 16 * ll (-V) by omega, up_s0 (by omega) (v_ll hnG hdG)]; rfl) (n_lt _) hP hD hS (by rw [show ((16 * ll (-V) - 1) : Int) = (16 * (ll (-V))) - 1 by omega]; exact lv_sub hl [0, 1, 2, 3, 7, 8] rfl)
        refine lv_iload hx hb d_Mo_upwards_111 (lv_at hl 0 rfl) ?_
        refine lv_bipush (v := iI 52) hx hb d_Mo_upwards_113 (by decide +kernel) ?_
        refine x_isub hx hb d_Mo_upwards_115 ?_
        refine lv_sipush (v := iI (-1074)) hx hb d_Mo_upwards_116 (by decide +kernel) ?_
        refine x_icmp_ge (tgt := 128) hx hb d_Mo_upwards_119 (by decide) (by omega) (by omega) (fun c_119 => ?_) (fun c_119 => ?_)
        · refine lv_iload hx hb d_Mo_upwards_128 (lv_at hl 0 rfl) ?_
          refine lv_bipush (v := iI 52) hx hb d_Mo_upwards_130 (by decide +kernel) ?_
          refine x_isub hx hb d_Mo_upwards_132 ?_
          refine x_top _ (upL (-V)) (by unfold upL; omega) ?_
          exact K133 ls hl
        · refine lv_sipush (v := iI (-1074)) hx hb d_Mo_upwards_122 (by decide +kernel) ?_
          refine lv_goto (tgt := 133) hx hb d_Mo_upwards_125 (by decide) ?_
          refine x_top _ (upL (-V)) (by unfold upL; omega) ?_
          exact K133 ls hl
      · refine lv_iload_n hx hb d_Mo_upwards_28 rfl (lv_at hl 3 rfl) ?_
        refine x_if_le (tgt := 49) hx hb d_Mo_upwards_29 (by decide) (by decide) (fun c_29 => ?_) (fun c_29 => (by exfalso; omega))
        refine lv_iload_n hx hb d_Mo_upwards_49 rfl (lv_at hl 1 rfl) ?_
        refine lv_aload_n hx hb d_Mo_upwards_50 rfl (lv_at hl 4 rfl) ?_
        refine va_get (D := D) (ci := 6) (v := .ref (b 16)) (C := R_Mo) (T := F_Mo) (N := 29) hx hb hts i_Mo hown hK hP 1 rfl rfl 22 (by decide) (hts _ wf_Mo_56) (fun _ h9 => h9) rfl d_Mo_upwards_51 ?_
        refine lv_iload hx hb d_Mo_upwards_54 (lv_at hl 0 rfl) ?_
        refine x_iald hx hb hK hP 2 rfl (by omega) (by decide) d_Mo_upwards_56 ?_
        have hft := hf.1 t (by omega) (by omega)
        rw [p16] at hft
        refine lv_iconst (v := iI (-1)) hx hb d_Mo_upwards_57 rfl ?_
        refine x_ixor (v := (-(f t) - 1)) hx hb d_Mo_upwards_58 (iI_not _) ?_
        refine x_ldc hx hb 65535 (by decide +kernel) hown (hts _ wk_Mo_88) d_Mo_upwards_59 ?_
        refine x_iand (v := ((-(f t) - 1) % 65536)) hx hb d_Mo_upwards_61 (iI_m16 _) ?_
        refine x_top ((-(f t) - 1) % 65536) (65535 - f t) (by omega) ?_
        refine x_iadd hx hb d_Mo_upwards_62 ?_
        obtain ⟨S2, hSd⟩ : ∃ z : Int, cy + (65535 - f t) = z := ⟨_, rfl⟩
        refine x_top _ S2 hSd ?_
        refine lv_istore_n (lv' := [(3, .int (iI S2)), (4, .int (iI t)), (2, .int (iI 440)), (1, .int (iI (-1))), (0, .ref (b 0))]) hx hb d_Mo_upwards_63 rfl hl (by decide) rfl (fun ls hl => ?_)
        refine lv_aload_n hx hb d_Mo_upwards_64 rfl (lv_at hl 4 rfl) ?_
        refine va_get (D := D) (ci := 6) (v := .ref (b 18)) (C := R_Mo) (T := F_Mo) (N := 29) hx hb hts i_Mo hown hK hP 1 rfl rfl 24 (by decide) (hts _ wf_Mo_63) (fun _ h9 => h9) rfl d_Mo_upwards_65 ?_
        refine lv_iload hx hb d_Mo_upwards_68 (lv_at hl 1 rfl) ?_
        refine lv_iload_n hx hb d_Mo_upwards_70 rfl (lv_at hl 0 rfl) ?_
        refine x_ldc hx hb 65535 (by decide +kernel) hown (hts _ wk_Mo_88) d_Mo_upwards_71 ?_
        refine x_iand (v := (S2 % 65536)) hx hb d_Mo_upwards_73 (iI_m16 _) ?_
        refine x_iast hx hb hK hP hD hS 0 rfl (by omega) (by decide) d_Mo_upwards_74 (fun H locs hP hD hS => ?_)
        have hP : va_P D CL [(b 18, eI aC 1200 (updI g t (S2 % 65536))), (b 0, .inr (6, [.int (iI er), .int (iI M.rw), .int (iI M.cn), .int (iI M.en), .int (iI M.pr), .double (dM M.ko (-3)), .ref (b 1), .ref (b 2), .ref (b 3), .ref (b 4), .ref (b 5), .ref (b 6), .ref (b 7), .ref (b 8), .ref (b 9), .ref (b 10), .ref (b 11), .ref (b 12), .ref (b 13), .ref (b 14), .ref (b 15), .int (iI p2), .ref (b 16), .ref (b 17), .ref (b 18), .ref (b 19), .ref (b 20), .ref (b 21), .ref (b 22)])), (b 16, eI aC 440 f)] H := hP
        have hD : va_D (aW [(b 18, eI aC 1200 f1), (b 0, .inr (6, [.int (iI er), .int (iI M.rw), .int (iI M.cn), .int (iI M.en), .int (iI M.pr), .double (dM M.ko (-3)), .ref (b 1), .ref (b 2), .ref (b 3), .ref (b 4), .ref (b 5), .ref (b 6), .ref (b 7), .ref (b 8), .ref (b 9), .ref (b 10), .ref (b 11), .ref (b 12), .ref (b 13), .ref (b 14), .ref (b 15), .int (iI p2), .ref (b 16), .ref (b 17), .ref (b 18), .ref (b 19), .ref (b 20), .ref (b 21), .ref (b 22)])), (b 16, eI aC 440 f)]) [(b 18, eI aC 1200 (updI g t (S2 % 65536))), (b 0, .inr (6, [.int (iI er), .int (iI M.rw), .int (iI M.cn), .int (iI M.en), .int (iI M.pr), .double (dM M.ko (-3)), .ref (b 1), .ref (b 2), .ref (b 3), .ref (b 4), .ref (b 5), .ref (b 6), .ref (b 7), .ref (b 8), .ref (b 9), .ref (b 10), .ref (b 11), .ref (b 12), .ref (b 13), .ref (b 14), .ref (b 15), .int (iI p2), .ref (b 16), .ref (b 17), .ref (b 18), .ref (b 19), .ref (b 20), .ref (b 21), .ref (b 22)])), (b 16, eI aC 440 f)] := hD
        refine lv_iload_n hx hb d_Mo_upwards_75 rfl (lv_at hl 0 rfl) ?_
        refine lv_bipush (v := iI 16) hx hb d_Mo_upwards_76 (by decide +kernel) ?_
        refine x_ishr hx hb d_Mo_upwards_78 (by omega) (by omega) ?_
        refine x_top _ (S2 / 65536) rfl ?_
        refine lv_istore_n (lv' := [(3, .int (iI (S2 / 65536))), (4, .int (iI t)), (2, .int (iI 440)), (1, .int (iI (-1))), (0, .ref (b 0))]) hx hb d_Mo_upwards_79 rfl hl (by decide) rfl (fun ls hl => ?_)
        refine lv_iinc (v := iI (t + 1)) (lv' := [(4, .int (iI (t + 1))), (3, .int (iI (S2 / 65536))), (2, .int (iI 440)), (1, .int (iI (-1))), (0, .ref (b 0))]) hx hb d_Mo_upwards_80 hl (k := 1) rfl (iI_add _ _) (by decide) rfl (fun ls hl => ?_)
        refine lv_goto (tgt := 20) hx hb d_Mo_upwards_83 (by decide) ?_
        exact ih (t + 1) (S2 / 65536) (updI g t (S2 % 65536)) _ _ ls (by omega) (by omega) (fun j h1 h2 => by
          by_cases hj : j = t
          · rw [hj, updI_s]; omega
          · rw [updI_n hj]; exact hr9 j h1 (by omega)) (ng_step (by omega) hSd hsum) (by omega) hP hD hS (lv_sub hl [0, 1, 2, 3, 4] rfl)
  exact L20 _ 0 1 f1 _ _ ls (by omega) (by omega) (fun j h1 h2 => by omega) (by show 0 + 0 + 1 * 2 ^ (16 * 0) = 2 ^ (16 * 0); decide) (n_lt _) hP hD hS (lv_sub hl [0, 1, 2, 3, 4] rfl)
set_option maxHeartbeats 4000000 in
set_option maxRecDepth 100000 in
theorem c_Mo_upwards_0 (l : Launch) (D : va_G) (aC : Nat → ClassId) (b : Nat → Nat) (M : MS) (er p2 : Int) (her : 0 ≤ er ∧ er ≤ 3) (f f1 : Int → Int) (V : Int) (hf : SumOk f V) (hb7 : -big7 < V ∧ V < big7) (hs : V = 0) : CT l D aC y_Mo_upwards (rd 1 23) [.ref (b 0)] [(b 18, eI aC 1200 f1), (b 0, .inr (6, [.int (iI er), .int (iI M.rw), .int (iI M.cn), .int (iI M.en), .int (iI M.pr), .double (dM M.ko (-3)), .ref (b 1), .ref (b 2), .ref (b 3), .ref (b 4), .ref (b 5), .ref (b 6), .ref (b 7), .ref (b 8), .ref (b 9), .ref (b 10), .ref (b 11), .ref (b 12), .ref (b 13), .ref (b 14), .ref (b 15), .int (iI p2), .ref (b 16), .ref (b 17), .ref (b 18), .ref (b 19), .ref (b 20), .ref (b 21), .ref (b 22)])), (b 16, eI aC 440 f)] (fun v w => v = some (.double (dM 0 0)) ∧ ∃ g : Int → Int, w = [(b 18, eI aC 1200 g), (b 0, .inr (6, [.int (iI er), .int (iI M.rw), .int (iI M.cn), .int (iI M.en), .int (iI M.pr), .double (dM M.ko (-3)), .ref (b 1), .ref (b 2), .ref (b 3), .ref (b 4), .ref (b 5), .ref (b 6), .ref (b 7), .ref (b 8), .ref (b 9), .ref (b 10), .ref (b 11), .ref (b 12), .ref (b 13), .ref (b 14), .ref (b 15), .int (iI p2), .ref (b 16), .ref (b 17), .ref (b 18), .ref (b 19), .ref (b 20), .ref (b 21), .ref (b 22)])), (b 16, eI aC 440 f)]) := by
  refine CT.of (cc := b_Mo_upwards) (maxL := 12) (ret := (some .double)) (by decide +kernel) k_Mo_upwards (Nat.le_of_ble_eq_true rfl) ?_
  intro p e s m below meth c Q S hr hlocks hQ hK hN hP hD hS ls hl
  obtain ⟨hx, hb, hml, hown, hts⟩ := id S
  have hl : lv_has ls 12 [(0, .ref (b 0))] := hl
  refine lv_aload_n hx hb d_Mo_upwards_0 rfl (lv_at hl 0 rfl) ?_
  refine y_callV1 (V := .int (iI (sgI V))) S (c_Mo_signOfSum l D aC b M er p2 f V hf hb7) t_Mo_152 (rm_ok (by decide) (by decide)) hK hN hP [2, 1] rfl 1 6 rfl rfl rfl hl.1 rfl (Nat.le_of_ble_eq_true rfl) d_Mo_upwards_1 ⟨Nat.zero_le _, Nat.zero_le _⟩ ?_
  refine x_top (sgI V) 0 (by unfold sgI; rw [if_neg (by omega), if_pos hs]) ?_
  refine lv_istore_n (lv' := [(1, .int (iI 0)), (0, .ref (b 0))]) hx hb d_Mo_upwards_4 rfl hl (by decide) rfl (fun ls hl => ?_)
  refine lv_sipush (v := iI 440) hx hb d_Mo_upwards_5 (by decide +kernel) ?_
  refine lv_istore_n (lv' := [(2, .int (iI 440)), (1, .int (iI 0)), (0, .ref (b 0))]) hx hb d_Mo_upwards_8 rfl hl (by decide) rfl (fun ls hl => ?_)
  refine lv_iload_n hx hb d_Mo_upwards_9 rfl (lv_at hl 1 rfl) ?_
  refine x_if_ne (tgt := 15) hx hb d_Mo_upwards_10 (by decide) (by decide) (fun c_10 => (by exfalso; omega)) (fun c_10 => ?_)
  refine x_dconst0 hx hb d_Mo_upwards_13 ?_
  exact x_dret hx hb hr hlocks hQ (⟨rfl, f1, rfl⟩) rfl hP hS d_Mo_upwards_14
