def bigV : Int := 2 ^ 3000
theorem bigV_pos : 0 < bigV := p2_pos 3000
/-- settled digits of a number: which is greater; its places and bits -/
theorem Nr.n {f : Int → Int} {V : Int} (h : Nr f V) {k : Nat} (hk : k ≤ 111) : nrm 27 f k := h.1.le hk
theorem Nr.at {f : Int → Int} {V j : Int} (h : Nr f V) (h0 : 0 ≤ j) (h1 : j < 111) : 0 ≤ f j ∧ f j < 134217728 := by have := h.1 j h0 h1; rw [p27] at this; exact this
theorem Nr.eq {f g : Int → Int} {V U : Int} (hf : Nr f V) (hg : Nr g U) (h : ∀ j : Int, 0 ≤ j → j < 112 → f j = g j) : V = U := by rw [← hf.2, ← hg.2]; exact dg_congr 112 h
theorem Nr.lt {f g : Int → Int} {V U t : Int} (hf : Nr f V) (hg : Nr g U) (ht : 0 ≤ t ∧ t < 112) (heq : ∀ j : Int, t < j → j < 112 → f j = g j) (h : f t < g t) : V < U := by
  obtain ⟨k, rfl⟩ : ∃ k : Nat, t = (k : Int) := ⟨t.toNat, by omega⟩
  obtain ⟨m, hm⟩ : ∃ m : Nat, 112 = (k + 1) + m := ⟨111 - k, by omega⟩
  rw [← hf.2, ← hg.2, hm, dg_split (k + 1) m, dg_split (k + 1) m]
  have e : dg 27 (fun j => f (j + ((k + 1 : Nat) : Int))) m = dg 27 (fun j => g (j + ((k + 1 : Nat) : Int))) m := dg_congr m (fun j h1 h2 => heq _ (by omega) (by omega))
  rw [e]
  obtain ⟨a1, a2⟩ := dg_range k (hf.n (by omega))
  obtain ⟨b1, b2⟩ := dg_range k (hg.n (by omega))
  have hp := p2_pos (27 * k)
  have c1 : (f (k : Int) + 1) * 2 ^ (27 * k) ≤ g (k : Int) * 2 ^ (27 * k) := Int.mul_le_mul_of_nonneg_right (by omega) (Int.le_of_lt hp)
  rw [Int.add_mul, Int.one_mul] at c1
  show dg 27 f k + f (k : Int) * 2 ^ (27 * k) + _ < dg 27 g k + g (k : Int) * 2 ^ (27 * k) + _
  omega
theorem Nr.top {f : Int → Int} {V : Int} (h : Nr f V) : f 111 = V / 2 ^ 2997 := by
  rw [← h.2]; exact (dg_last (k := 111) (b := 27) h.1).symm
theorem Nr.sign {f : Int → Int} {V : Int} (h : Nr f V) : f 111 < 0 ↔ V < 0 := by
  rw [h.top]
  have hp := p2_pos 2997
  generalize (2 : Int) ^ 2997 = w at hp ⊢
  constructor
  · intro q
    rcases int_lt_ge V 0 with c | c
    · exact c
    · have := Int.ediv_nonneg c (Int.le_of_lt hp); omega
  · intro q; exact Int.ediv_neg_of_neg_of_pos q hp
theorem Nr.topr {f : Int → Int} {V : Int} (h : Nr f V) (hV : -bigV < V ∧ V < bigV) : -8 ≤ f 111 ∧ f 111 < 8 := by
  rw [h.top]
  have hp := p2_pos 2997
  have e : bigV = 8 * 2 ^ 2997 := by unfold bigV; rw [show (3000 : Nat) = 3 + 2997 from rfl, p2_add]; rfl
  rw [e] at hV
  generalize (2 : Int) ^ 2997 = w at hp hV ⊢
  refine ⟨(Int.le_ediv_iff_mul_le hp).mpr (by rw [Int.neg_mul]; omega), Int.ediv_lt_of_lt_mul hp hV.2⟩
/-- the place of the highest bit, -1 of 0 -/
def tp (V : Int) : Int := if V = 0 then -1 else (V.toNat.log2 : Int)
theorem tp_eq {V : Int} {k : Nat} (h1 : (2 : Int) ^ k ≤ V) (h2 : V < 2 ^ (k + 1)) : tp V = k := by
  have hp := p2_pos k
  have e1 := p2_nat k
  have e2 := p2_nat (k + 1)
  have hn : V.toNat ≠ 0 := by omega
  have a1 : 2 ^ k ≤ V.toNat := by omega
  have a2 : V.toNat < 2 ^ (k + 1) := by omega
  have b1 := (Nat.le_log2 hn).mpr a1
  have b2 := (Nat.log2_lt hn).mpr a2
  unfold tp
  rw [if_neg (by omega)]
  omega
theorem tp_spec {V : Int} (h : 0 < V) : ∃ k : Nat, tp V = k ∧ (2 : Int) ^ k ≤ V ∧ V < 2 ^ (k + 1) := by
  have hn : V.toNat ≠ 0 := by omega
  have l1 : 2 ^ V.toNat.log2 ≤ V.toNat := Nat.log2_self_le hn
  have l2 : V.toNat < 2 ^ (V.toNat.log2 + 1) := Nat.lt_log2_self
  have e1 := p2_nat V.toNat.log2
  have e2 := p2_nat (V.toNat.log2 + 1)
  refine ⟨V.toNat.log2, by unfold tp; rw [if_neg (by omega)], by omega, by omega⟩
theorem nlz_tp {x : Int} (h : 0 < x) : nlzI x = 31 - tp x := by
  unfold nlzI tp; rw [if_neg (by omega)]
theorem Nr.low {f : Int → Int} {V : Int} {k : Nat} (h : Nr f V) (hk : k ≤ 112) (hz : ∀ j : Int, (k : Int) ≤ j → j < 112 → f j = 0) : dg 27 f k = V := by
  obtain ⟨m, hm⟩ : ∃ m : Nat, 112 = k + m := ⟨112 - k, by omega⟩
  rw [← h.2, hm, dg_split k m, dg_zero m (fun j h1 h2 => hz _ (by omega) (by omega)), Int.mul_zero, Int.add_zero]
theorem Nr.tp {f : Int → Int} {V t : Int} (h : Nr f V) (ht : 0 ≤ t ∧ t < 112) (hz : ∀ j : Int, t < j → j < 112 → f j = 0) (hp : 0 < f t) : tp V = 27 * t + tp (f t) := by
  obtain ⟨k, rfl⟩ : ∃ k : Nat, t = (k : Int) := ⟨t.toNat, by omega⟩
  obtain ⟨a, ha, h1, h2⟩ := tp_spec hp
  rw [ha]
  have hV : dg 27 f (k + 1) = V := h.low (by omega) (fun j q1 q2 => hz j (by omega) q2)
  obtain ⟨r1, r2⟩ := dg_range k (h.n (by omega))
  have hw := p2_pos (27 * k)
  have e1 : (2 : Int) ^ a * 2 ^ (27 * k) ≤ f (k : Int) * 2 ^ (27 * k) := Int.mul_le_mul_of_nonneg_right h1 (Int.le_of_lt hw)
  have e2 : (f (k : Int) + 1) * 2 ^ (27 * k) ≤ 2 ^ (a + 1) * 2 ^ (27 * k) := Int.mul_le_mul_of_nonneg_right (by omega) (Int.le_of_lt hw)
  rw [Int.add_mul, Int.one_mul, ← p2_add] at e2
  rw [← p2_add] at e1
  have e3 : dg 27 f k + f (k : Int) * 2 ^ (27 * k) = V := hV
  have := tp_eq (V := V) (k := a + 27 * k) (by omega) (by rw [show a + 27 * k + 1 = a + 1 + 27 * k by omega]; omega)
  omega
theorem Nr.zero {f : Int → Int} {V : Int} (h : Nr f V) (hz : ∀ j : Int, -1 < j → j < 112 → f j = 0) : V = 0 := by
  rw [← h.2]; exact dg_zero 112 (fun j h1 h2 => hz j (by omega) h2)
theorem Nr.pos {f : Int → Int} {V t : Int} (h : Nr f V) (ht : 0 ≤ t ∧ t < 112) (h0 : 0 ≤ V) (hz : f t ≠ 0) : 0 < f t := by
  rcases (show t < 111 ∨ t = 111 by omega) with q | q
  · have := h.at ht.1 q; omega
  · subst q
    have := h.sign; omega
theorem mod_div_mod (x : Int) {s k : Nat} (h : s < k) : x % 2 ^ k / 2 ^ s % 2 = x / 2 ^ s % 2 := by
  have hp := p2_pos s
  obtain ⟨c, hc⟩ : ∃ c : Nat, k = s + (1 + c) := ⟨k - s - 1, by omega⟩
  have e : x % 2 ^ k = x + 2 ^ s * (2 * (-(2 ^ c * (x / 2 ^ k)))) := by
    rw [Int.emod_def]
    conv => lhs; arg 2; lhs; rw [hc, p2_add, p2_add]
    rw [show (2 : Int) ^ 1 = 2 from rfl]
    rw [Int.mul_assoc, Int.mul_assoc]
    rw [Int.mul_neg, Int.mul_neg]
    omega
  rw [e, Int.add_mul_ediv_left _ _ (Int.ne_of_gt hp)]
  omega
theorem Nr.bit {f : Int → Int} {V pl : Int} (h : Nr f V) (hp : 0 ≤ pl ∧ pl < 3024) : f (pl / 27) / 2 ^ (pl % 27).toNat % 2 = V / 2 ^ pl.toNat % 2 := by
  obtain ⟨d, hd⟩ : ∃ d : Nat, pl / 27 = (d : Int) := ⟨(pl / 27).toNat, by omega⟩
  have e : pl.toNat = 27 * d + (pl % 27).toNat := by omega
  rw [hd, e, p2_add, ← Int.ediv_ediv_of_nonneg (Int.le_of_lt (p2_pos _))]
  rcases (show d < 111 ∨ d = 111 by omega) with q | q
  · obtain ⟨m, hm⟩ : ∃ m : Nat, 112 = d + (m + 1) := ⟨111 - d, by omega⟩
    have := dg_digit (b := 27) (f := f) (k := d) (m := m) (h.n (by omega))
    rw [← hm, h.2] at this
    rw [← this]
    exact mod_div_mod _ (by omega)
  · subst q
    have := h.top
    rw [show ((111 : Nat) : Int) = 111 from rfl, this]
theorem bits_step (V : Int) (p c : Nat) : V / 2 ^ (p + 1) % 2 ^ c * 2 + V / 2 ^ p % 2 = V / 2 ^ p % 2 ^ (c + 1) := by
  have e0 : V / 2 ^ (p + 1) = V / 2 ^ p / 2 := by rw [p2_add, show (2 : Int) ^ 1 = 2 from rfl, Int.ediv_ediv_of_nonneg (Int.le_of_lt (p2_pos _))]
  rw [e0, p2_add, show (2 : Int) ^ 1 = 2 from rfl]
  generalize V / 2 ^ p = x
  have hp := p2_pos c
  have d1 : x = 2 * (x / 2) + x % 2 := by omega
  have d2 := emod_add_div (x / 2) (2 ^ c)
  have m1 := Int.emod_nonneg (x / 2) (Int.ne_of_gt hp)
  have m2 := Int.emod_lt_of_pos (x / 2) hp
  have key : x = (x / 2 % 2 ^ c * 2 + x % 2) + 2 ^ c * 2 * (x / 2 / 2 ^ c) := by
    rw [Int.mul_assoc, Int.mul_left_comm]
    omega
  conv => rhs; rw [key]
  rw [Int.add_mul_emod_self_left]
  exact (Int.emod_eq_of_lt (by omega) (by omega)).symm
theorem dg_nz {f : Int → Int} : ∀ (n : Nat), nrm 27 f n → (dg 27 f n = 0 ↔ ∀ j : Int, 0 ≤ j → j < (n : Int) → f j = 0)
  | 0, _ => ⟨fun _ j h1 h2 => by omega, fun _ => rfl⟩
  | n + 1, h => by
    obtain ⟨r1, r2⟩ := dg_range n (h.le (Nat.le_succ n))
    obtain ⟨a1, a2⟩ := h (n : Int) (by omega) (by omega)
    have hp := p2_pos (27 * n)
    have hm := Int.mul_nonneg a1 (Int.le_of_lt hp)
    constructor
    · intro q j h1 h2
      have q1 : dg 27 f n + f (n : Int) * 2 ^ (27 * n) = 0 := q
      rcases (show j < (n : Int) ∨ j = (n : Int) by omega) with c | c
      · exact (dg_nz n (h.le (Nat.le_succ n))).mp (by omega) j h1 c
      · subst c
        rcases Int.mul_eq_zero.mp (show f (n : Int) * 2 ^ (27 * n) = 0 by omega) with c | c
        · exact c
        · omega
    · intro q; exact dg_zero (n + 1) q
theorem Nr.under {f : Int → Int} {V lo : Int} (h : Nr f V) (hl : 0 ≤ lo ∧ lo < 3024) : V % 2 ^ lo.toNat = 0 ↔ (∀ j : Int, 0 ≤ j → j < lo / 27 → f j = 0) ∧ f (lo / 27) % 2 ^ (lo % 27).toNat = 0 := by
  obtain ⟨d, hd⟩ : ∃ d : Nat, lo / 27 = (d : Int) := ⟨(lo / 27).toNat, by omega⟩
  have e : lo.toNat = 27 * d + (lo % 27).toNat := by omega
  obtain ⟨m, hm⟩ : ∃ m : Nat, 112 = d + (m + 1) := ⟨111 - d, by omega⟩
  obtain ⟨r1, r2⟩ := dg_range d (h.n (by omega))
  have hs := dg_split (b := 27) (f := f) d (m + 1)
  rw [← hm, h.2] at hs
  have h1 := dg_one (b := 27) (f := fun j => f (j + (d : Int))) m
  have e0 : f (0 + (d : Int)) = f (d : Int) := by rw [Int.zero_add]
  rw [e0] at h1
  generalize hX : dg 27 (fun j => f (j + (d : Int))) (m + 1) = X at hs h1
  generalize hY : dg 27 (fun j => f (j + 1 + (d : Int))) m = Y at h1
  have hw := p2_pos (27 * d)
  have hu := p2_pos (lo % 27).toNat
  have eX : X % 2 ^ (lo % 27).toNat = f (d : Int) % 2 ^ (lo % 27).toNat := by
    obtain ⟨c, hc⟩ : ∃ c : Nat, 27 = (lo % 27).toNat + c := ⟨27 - (lo % 27).toNat, by omega⟩
    rw [h1]
    conv => lhs; arg 1; arg 2; arg 1; rw [hc, p2_add]
    rw [Int.mul_assoc, Int.add_mul_emod_self_left]
  have k1 := Int.emod_nonneg X (Int.ne_of_gt hu)
  have k2 := Int.emod_lt_of_pos X hu
  have key : V % 2 ^ lo.toNat = dg 27 f d + 2 ^ (27 * d) * (X % 2 ^ (lo % 27).toNat) := by
    have d2 := emod_add_div X (2 ^ (lo % 27).toNat)
    have : V = (dg 27 f d + 2 ^ (27 * d) * (X % 2 ^ (lo % 27).toNat)) + 2 ^ (27 * d) * 2 ^ (lo % 27).toNat * (X / 2 ^ (lo % 27).toNat) := by
      rw [Int.mul_assoc, Int.add_assoc, ← Int.mul_add, d2]; exact hs
    rw [e, p2_add]
    conv => lhs; rw [this]
    rw [Int.add_mul_emod_self_left]
    have b1 : (X % 2 ^ (lo % 27).toNat + 1) * 2 ^ (27 * d) ≤ 2 ^ (lo % 27).toNat * 2 ^ (27 * d) := Int.mul_le_mul_of_nonneg_right (by omega) (Int.le_of_lt hw)
    have b2 := Int.mul_nonneg (Int.le_of_lt hw) k1
    rw [Int.add_mul, Int.one_mul, Int.mul_comm (X % _), Int.mul_comm (2 ^ (lo % 27).toNat)] at b1
    exact Int.emod_eq_of_lt (by omega) (by omega)
  rw [key, hd, ← eX, ← dg_nz d (h.n (by omega))]
  have b2 := Int.mul_nonneg (Int.le_of_lt hw) k1
  constructor
  · intro q
    refine ⟨by omega, ?_⟩
    rcases Int.mul_eq_zero.mp (show 2 ^ (27 * d) * (X % 2 ^ (lo % 27).toNat) = 0 by omega) with c | c
    · omega
    · exact c
  · rintro ⟨q1, q2⟩; rw [q1, q2, Int.mul_zero]; rfl

set_option maxHeartbeats 4000000 in
set_option maxRecDepth 100000 in
theorem c_Ex_isBelow (l : Launch) (D : va_G) (aC : Nat → ClassId) (a ad b bd : Nat) (f g : Int → Int) (mt ee mu eu V U : Int) (hf : Nr f V) (hg : Nr g U) (hV : -bigV < V ∧ V < bigV) (hU : -bigV < U ∧ U < bigV) : CR l D aC y_Ex_isBelow (rd 0 0) [.ref a, .ref b] [(a, .inr (4, [.ref ad, .long (lI mt), .int (iI ee)])), (ad, eJ aC 112 f), (b, .inr (4, [.ref bd, .long (lI mu), .int (iI eu)])), (bd, eJ aC 112 g)] (fun v => v = some (.int (iI (zP (V < U))))) := by
  refine CR.of (cc := b_Ex_isBelow) (maxL := 3) (ret := (some .boolean)) (by decide +kernel) k_Ex_isBelow (Nat.le_of_ble_eq_true rfl) ?_
  intro p e s m below meth c Q S hr hlocks hQ hK hN hP ls hl
  obtain ⟨hx, hb, hml, hown, hts⟩ := id S
  have hl : lv_has ls 3 [(0, .ref a), (1, .ref b)] := hl
  have hfr : ∀ j : Int, 0 ≤ j → j < 112 → -134217728 ≤ f j ∧ f j < 134217728 := fun j h1 h2 => by
    rcases (show j < 111 ∨ j = 111 by omega) with q | q
    · have := hf.at h1 q; omega
    · subst q; have := hf.topr hV; omega
  have hgr : ∀ j : Int, 0 ≤ j → j < 112 → -134217728 ≤ g j ∧ g j < 134217728 := fun j h1 h2 => by
    rcases (show j < 111 ∨ j = 111 by omega) with q | q
    · have := hg.at h1 q; omega
    · subst q; have := hg.topr hU; omega
  refine lv_bipush (v := iI 111) hx hb d_Ex_isBelow_0 (by decide +kernel) ?_
  refine lv_istore_n (lv' := [(2, .int (iI 111)), (0, .ref a), (1, .ref b)]) hx hb d_Ex_isBelow_2 rfl hl (by decide) rfl (fun ls hl => ?_)
  have L3 : ∀ (nn : Nat) (t : Int) (ls : Array Slot), (-1 ≤ t ∧ t ≤ 111) → (∀ j : Int, t < j → j < 112 → f j = g j) → t + 1 < (nn : Int) → lv_has ls 3 [(2, .int (iI t)), (0, .ref a), (1, .ref b)] → W p l e (rd 0 0) s m ([.ref a, .ref b]).toArray below meth c s.heap [] 0 0 Q (F0 m 3 ls []) := by
    intro nn
    induction nn with
    | zero => intro t ls ht heq hnn; exact absurd hnn (by omega)
    | succ nn ih =>
      intro t ls ht heq hnn hl
      refine lv_iload_n hx hb d_Ex_isBelow_3 rfl (lv_at hl 0 rfl) ?_
      refine x_if_lt (tgt := 51) hx hb d_Ex_isBelow_4 (by decide) (by omega) (fun c_4 => ?_) (fun c_4 => ?_)
      · refine lv_iconst (v := iI 0) hx hb d_Ex_isBelow_51 rfl ?_
        exact y_zret hx hb hr (rfl) hlocks hQ (by rw [zP_f (fun q => by have := Nr.eq hf hg (fun j h1 h2 => heq j (by omega) h2); omega)]) d_Ex_isBelow_52
      · refine lv_aload_n hx hb d_Ex_isBelow_7 rfl (lv_at hl 1 rfl) ?_
        refine va_get (D := D) (ci := 4) (v := .ref ad) (C := R_Ex) (T := F_Ex) (N := 3) hx hb hts i_Ex hown hK hP 0 rfl rfl 0 (by decide) (hts _ wf_Ex_9) (fun _ h9 => h9) rfl d_Ex_isBelow_8 ?_
        refine lv_iload_n hx hb d_Ex_isBelow_11 rfl (lv_at hl 0 rfl) ?_
        refine x_lald hx hb hK hP 1 rfl (by omega) (by decide) d_Ex_isBelow_12 ?_
        refine lv_aload_n hx hb d_Ex_isBelow_13 rfl (lv_at hl 2 rfl) ?_
        refine va_get (D := D) (ci := 4) (v := .ref bd) (C := R_Ex) (T := F_Ex) (N := 3) hx hb hts i_Ex hown hK hP 2 rfl rfl 0 (by decide) (hts _ wf_Ex_9) (fun _ h9 => h9) rfl d_Ex_isBelow_14 ?_
        refine lv_iload_n hx hb d_Ex_isBelow_17 rfl (lv_at hl 0 rfl) ?_
        refine x_lald hx hb hK hP 3 rfl (by omega) (by decide) d_Ex_isBelow_18 ?_
        refine x_lcmp_eq (tgt := 45) hx hb d_Ex_isBelow_19 d_Ex_isBelow_20 (by decide) (by have := hfr t (by omega) (by omega); omega) (by have := hgr t (by omega) (by omega); omega) (fun c_19 => ?_) (fun c_19 => ?_)
        · refine lv_iinc (v := iI (t + (-1))) (lv' := [(2, .int (iI (t + (-1)))), (0, .ref a), (1, .ref b)]) hx hb d_Ex_isBelow_45 hl (k := 0) rfl (iI_add _ _) (by decide) rfl (fun ls hl => ?_)
          refine lv_goto (tgt := 3) hx hb d_Ex_isBelow_48 (by decide) ?_
          exact ih (t + (-1)) ls (by omega) (fun j h1 h2 => by
            by_cases hj : j = t
            · rw [hj]; exact c_19
            · exact heq j (by omega) h2) (by omega) (lv_sub hl [0, 1, 2] rfl)
        · refine lv_aload_n hx hb d_Ex_isBelow_23 rfl (lv_at hl 1 rfl) ?_
          refine va_get (D := D) (ci := 4) (v := .ref ad) (C := R_Ex) (T := F_Ex) (N := 3) hx hb hts i_Ex hown hK hP 0 rfl rfl 0 (by decide) (hts _ wf_Ex_9) (fun _ h9 => h9) rfl d_Ex_isBelow_24 ?_
          refine lv_iload_n hx hb d_Ex_isBelow_27 rfl (lv_at hl 0 rfl) ?_
          refine x_lald hx hb hK hP 1 rfl (by omega) (by decide) d_Ex_isBelow_28 ?_
          refine lv_aload_n hx hb d_Ex_isBelow_29 rfl (lv_at hl 2 rfl) ?_
          refine va_get (D := D) (ci := 4) (v := .ref bd) (C := R_Ex) (T := F_Ex) (N := 3) hx hb hts i_Ex hown hK hP 2 rfl rfl 0 (by decide) (hts _ wf_Ex_9) (fun _ h9 => h9) rfl d_Ex_isBelow_30 ?_
          refine lv_iload_n hx hb d_Ex_isBelow_33 rfl (lv_at hl 0 rfl) ?_
          refine x_lald hx hb hK hP 3 rfl (by omega) (by decide) d_Ex_isBelow_34 ?_
          refine x_lcmp_ge (tgt := 43) hx hb d_Ex_isBelow_35 d_Ex_isBelow_36 (by decide) (by have := hfr t (by omega) (by omega); omega) (by have := hgr t (by omega) (by omega); omega) (fun c_35 => ?_) (fun c_35 => ?_)
          · refine lv_iconst (v := iI 0) hx hb d_Ex_isBelow_43 rfl ?_
            exact y_zret hx hb hr (rfl) hlocks hQ (by rw [zP_f (fun q => by have := Nr.lt hg hf (by omega) (fun j h1 h2 => (heq j h1 h2).symm) (show g t < f t by omega); omega)]) d_Ex_isBelow_44
          · refine lv_iconst (v := iI 1) hx hb d_Ex_isBelow_39 rfl ?_
            refine lv_goto (tgt := 44) hx hb d_Ex_isBelow_40 (by decide) ?_
            exact y_zret hx hb hr (rfl) hlocks hQ (by rw [zP_t (Nr.lt hf hg (by omega) heq (by omega))]) d_Ex_isBelow_44
  exact L3 _ 111 ls (by omega) (fun j h1 h2 => by omega) (n_lt _) (lv_sub hl [0, 1, 2] rfl)
set_option maxHeartbeats 4000000 in
set_option maxRecDepth 100000 in
theorem c_Ex_topPlace (l : Launch) (D : va_G) (aC : Nat → ClassId) (a ad : Nat) (f : Int → Int) (mt ee : Int) (V : Int) (hf : Nr f V) (hV : 0 ≤ V ∧ V < bigV) : CR l D aC y_Ex_topPlace (rd 2 43) [.ref a] [(a, .inr (4, [.ref ad, .long (lI mt), .int (iI ee)])), (ad, eJ aC 112 f)] (fun v => v = some (.int (iI (tp V)))) := by
  refine CR.of (cc := b_Ex_topPlace) (maxL := 2) (ret := (some .int)) (by decide +kernel) k_Ex_topPlace (Nat.le_of_ble_eq_true rfl) ?_
  intro p e s m below meth c Q S hr hlocks hQ hK hN hP ls hl
  obtain ⟨hx, hb, hml, hown, hts⟩ := id S
  have hl : lv_has ls 2 [(0, .ref a)] := hl
  have hfr : ∀ j : Int, 0 ≤ j → j < 112 → -134217728 ≤ f j ∧ f j < 134217728 := fun j h1 h2 => by
    rcases (show j < 111 ∨ j = 111 by omega) with q | q
    · have := hf.at h1 q; omega
    · subst q; have := hf.topr (V := V) (by have := bigV_pos; omega); omega
  refine lv_bipush (v := iI 111) hx hb d_Ex_topPlace_0 (by decide +kernel) ?_
  refine lv_istore_n (lv' := [(1, .int (iI 111)), (0, .ref a)]) hx hb d_Ex_topPlace_2 rfl hl (by decide) rfl (fun ls hl => ?_)
  have L3 : ∀ (nn : Nat) (t : Int) (ls : Array Slot), (-1 ≤ t ∧ t ≤ 111) → (∀ j : Int, t < j → j < 112 → f j = 0) → t + 1 < (nn : Int) → lv_has ls 2 [(1, .int (iI t)), (0, .ref a)] → W p l e (rd 2 43) s m ([.ref a]).toArray below meth c s.heap [] 0 0 Q (F0 m 3 ls []) := by
    intro nn
    induction nn with
    | zero => intro t ls ht hz hnn; exact absurd hnn (by omega)
    | succ nn ih =>
      intro t ls ht hz hnn hl
      refine lv_iload_n hx hb d_Ex_topPlace_3 rfl (lv_at hl 0 rfl) ?_
      refine x_if_lt (tgt := 42) hx hb d_Ex_topPlace_4 (by decide) (by omega) (fun c_4 => ?_) (fun c_4 => ?_)
      · refine lv_iconst (v := iI (-1)) hx hb d_Ex_topPlace_42 rfl ?_
        exact y_iret hx hb hr hlocks hQ (by rw [hf.zero (fun j h1 h2 => hz j (by omega) h2)]; rfl) d_Ex_topPlace_43
      · refine lv_aload_n hx hb d_Ex_topPlace_7 rfl (lv_at hl 1 rfl) ?_
        refine va_get (D := D) (ci := 4) (v := .ref ad) (C := R_Ex) (T := F_Ex) (N := 3) hx hb hts i_Ex hown hK hP 0 rfl rfl 0 (by decide) (hts _ wf_Ex_9) (fun _ h9 => h9) rfl d_Ex_topPlace_8 ?_
        refine lv_iload_n hx hb d_Ex_topPlace_11 rfl (lv_at hl 0 rfl) ?_
        refine x_lald hx hb hK hP 1 rfl (by omega) (by decide) d_Ex_topPlace_12 ?_
        refine lv_lconst (v := lI 0) hx hb d_Ex_topPlace_13 (by decide +kernel) ?_
        refine x_lcmp_eq (tgt := 36) hx hb d_Ex_topPlace_14 d_Ex_topPlace_15 (by decide) (by have := hfr t (by omega) (by omega); omega) (by omega) (fun c_14 => ?_) (fun c_14 => ?_)
        · refine lv_iinc (v := iI (t + (-1))) (lv' := [(1, .int (iI (t + (-1)))), (0, .ref a)]) hx hb d_Ex_topPlace_36 hl (k := 0) rfl (iI_add _ _) (by decide) rfl (fun ls hl => ?_)
          refine lv_goto (tgt := 3) hx hb d_Ex_topPlace_39 (by decide) ?_
          exact ih (t + (-1)) ls (by omega) (fun j h1 h2 => by
            by_cases hj : j = t
            · rw [hj]; exact c_14
            · exact hz j (by omega) h2) (by omega) (lv_sub hl [0, 1] rfl)
        · have hpos := hf.pos (t := t) (by omega) hV.1 c_14
          refine lv_iload_n hx hb d_Ex_topPlace_18 rfl (lv_at hl 0 rfl) ?_
          refine lv_bipush (v := iI 27) hx hb d_Ex_topPlace_19 (by decide +kernel) ?_
          refine x_imul hx hb d_Ex_topPlace_21 ?_
          refine lv_bipush (v := iI 63) hx hb d_Ex_topPlace_22 (by decide +kernel) ?_
          refine x_iadd hx hb d_Ex_topPlace_24 ?_
          refine lv_aload_n hx hb d_Ex_topPlace_25 rfl (lv_at hl 1 rfl) ?_
          refine va_get (D := D) (ci := 4) (v := .ref ad) (C := R_Ex) (T := F_Ex) (N := 3) hx hb hts i_Ex hown hK hP 0 rfl rfl 0 (by decide) (hts _ wf_Ex_9) (fun _ h9 => h9) rfl d_Ex_topPlace_26 ?_
          refine lv_iload_n hx hb d_Ex_topPlace_29 rfl (lv_at hl 0 rfl) ?_
          refine x_lald hx hb hK hP 1 rfl (by omega) (by decide) d_Ex_topPlace_30 ?_
          refine y_callS1 (V := .int (iI (32 + nlzI (f t)))) S (c_nlzJ l D aC (f t) (by have := hfr t (by omega) (by omega); omega)) t_Ex_100 (rm_ok (by decide) (by decide)) hK hN hP [] rfl rfl hl.1 rfl (Nat.le_of_ble_eq_true rfl) d_Ex_topPlace_31 ⟨Nat.zero_le _, Nat.zero_le _⟩ ?_
          refine x_isub hx hb d_Ex_topPlace_34 ?_
          exact y_iret hx hb hr hlocks hQ (by rw [hf.tp (by omega) hz hpos, nlz_tp hpos, show (t * 27) + 63 - (32 + (31 - tp (f t))) = 27 * t + tp (f t) by omega]) d_Ex_topPlace_35
  exact L3 _ 111 ls (by omega) (fun j h1 h2 => by omega) (n_lt _) (lv_sub hl [0, 1] rfl)
set_option maxHeartbeats 4000000 in
set_option maxRecDepth 100000 in
theorem c_Ex_bitAt (l : Launch) (D : va_G) (aC : Nat → ClassId) (a ad : Nat) (f : Int → Int) (mt ee : Int) (V pl : Int) (hf : Nr f V) (hV : 0 ≤ V ∧ V < bigV) (hpl : 0 ≤ pl ∧ pl < 3024) : CR l D aC y_Ex_bitAt (rd 1 22) [.ref a, .int (iI pl)] [(a, .inr (4, [.ref ad, .long (lI mt), .int (iI ee)])), (ad, eJ aC 112 f)] (fun v => v = some (.long (lI (V / 2 ^ pl.toNat % 2)))) := by
  refine CR.of (cc := b_Ex_bitAt) (maxL := 3) (ret := (some .long)) (by decide +kernel) k_Ex_bitAt (Nat.le_of_ble_eq_true rfl) ?_
  intro p e s m below meth c Q S hr hlocks hQ hK hN hP ls hl
  obtain ⟨hx, hb, hml, hown, hts⟩ := id S
  have hl : lv_has ls 3 [(0, .ref a), (1, .int (iI pl))] := hl
  have hfr : ∀ j : Int, 0 ≤ j → j < 112 → -134217728 ≤ f j ∧ f j < 134217728 := fun j h1 h2 => by
    rcases (show j < 111 ∨ j = 111 by omega) with q | q
    · have := hf.at h1 q; omega
    · subst q; have := hf.topr (V := V) (by have := bigV_pos; omega); omega
  refine lv_iload_n hx hb d_Ex_bitAt_0 rfl (lv_at hl 1 rfl) ?_
  refine lv_bipush (v := iI 27) hx hb d_Ex_bitAt_1 (by decide +kernel) ?_
  refine y_callS1 (V := .int (iI (pl / 27))) S (c_floorDiv l D aC pl (by omega)) t_Ex_25 (rm_ok (by decide) (by decide)) hK hN hP [] rfl rfl hl.1 rfl (Nat.le_of_ble_eq_true rfl) d_Ex_bitAt_3 ⟨Nat.zero_le _, Nat.zero_le _⟩ ?_
  refine lv_istore_n (lv' := [(2, .int (iI (pl / 27))), (0, .ref a), (1, .int (iI pl))]) hx hb d_Ex_bitAt_6 rfl hl (by decide) rfl (fun ls hl => ?_)
  refine lv_iload_n hx hb d_Ex_bitAt_7 rfl (lv_at hl 0 rfl) ?_
  refine x_if_lt (tgt := 17) hx hb d_Ex_bitAt_8 (by decide) (by omega) (fun c_8 => (by exfalso; omega)) (fun c_8 => ?_)
  refine lv_iload_n hx hb d_Ex_bitAt_11 rfl (lv_at hl 0 rfl) ?_
  refine lv_bipush (v := iI 112) hx hb d_Ex_bitAt_12 (by decide +kernel) ?_
  refine x_icmp_lt (tgt := 19) hx hb d_Ex_bitAt_14 (by decide) (by omega) (by omega) (fun c_14 => ?_) (fun c_14 => (by exfalso; omega))
  refine lv_aload_n hx hb d_Ex_bitAt_19 rfl (lv_at hl 1 rfl) ?_
  refine va_get (D := D) (ci := 4) (v := .ref ad) (C := R_Ex) (T := F_Ex) (N := 3) hx hb hts i_Ex hown hK hP 0 rfl rfl 0 (by decide) (hts _ wf_Ex_9) (fun _ h9 => h9) rfl d_Ex_bitAt_20 ?_
  refine lv_iload_n hx hb d_Ex_bitAt_23 rfl (lv_at hl 0 rfl) ?_
  refine x_lald hx hb hK hP 1 rfl (by omega) (by decide) d_Ex_bitAt_24 ?_
  refine lv_iload_n hx hb d_Ex_bitAt_25 rfl (lv_at hl 2 rfl) ?_
  refine lv_bipush (v := iI 27) hx hb d_Ex_bitAt_26 (by decide +kernel) ?_
  refine y_callS1 (V := .int (iI (pl % 27))) S (c_floorMod l D aC pl (by omega)) t_Ex_31 (rm_ok (by decide) (by decide)) hK hN hP [] rfl rfl hl.1 rfl (Nat.le_of_ble_eq_true rfl) d_Ex_bitAt_28 ⟨Nat.zero_le _, Nat.zero_le _⟩ ?_
  refine x_lshr hx hb d_Ex_bitAt_31 (by have := hfr (pl / 27) (by omega) (by omega); omega) (by omega) ?_
  refine lv_lconst (v := lI 1) hx hb d_Ex_bitAt_32 (by decide +kernel) ?_
  refine x_land (v := (((f (pl / 27)) / 2 ^ (pl % 27).toNat) % 2)) hx hb d_Ex_bitAt_33 (lI_m1 _) ?_
  refine x_topl (((f (pl / 27)) / 2 ^ (pl % 27).toNat) % 2) (V / 2 ^ pl.toNat % 2) (hf.bit (by omega)) ?_
  exact y_lret hx hb hr hlocks hQ (rfl) d_Ex_bitAt_34
set_option maxHeartbeats 4000000 in
set_option maxRecDepth 100000 in
theorem c_Ex_mantissaFrom (l : Launch) (D : va_G) (aC : Nat → ClassId) (a ad : Nat) (f : Int → Int) (mt ee : Int) (V lo : Int) (hf : Nr f V) (hV : 0 ≤ V ∧ V < bigV) (hlo : 0 ≤ lo ∧ lo < 2971) : CR l D aC y_Ex_mantissaFrom (rd 2 44) [.ref a, .int (iI lo)] [(a, .inr (4, [.ref ad, .long (lI mt), .int (iI ee)])), (ad, eJ aC 112 f)] (fun v => v = some (.long (lI (V / 2 ^ lo.toNat % 2 ^ 53)))) := by
  refine CR.of (cc := b_Ex_mantissaFrom) (maxL := 5) (ret := (some .long)) (by decide +kernel) k_Ex_mantissaFrom (Nat.le_of_ble_eq_true rfl) ?_
  intro p e s m below meth c Q S hr hlocks hQ hK hN hP ls hl
  obtain ⟨hx, hb, hml, hown, hts⟩ := id S
  have hl : lv_has ls 5 [(0, .ref a), (1, .int (iI lo))] := hl
  refine lv_lconst (v := lI 0) hx hb d_Ex_mantissaFrom_0 (by decide +kernel) ?_
  refine lv_lstore_n (lv' := [(2, .long (lI 0)), (0, .ref a), (1, .int (iI lo))]) hx hb d_Ex_mantissaFrom_1 rfl hl (by decide) rfl (fun ls hl => ?_)
  refine lv_iload_n hx hb d_Ex_mantissaFrom_2 rfl (lv_at hl 2 rfl) ?_
  refine lv_bipush (v := iI 53) hx hb d_Ex_mantissaFrom_3 (by decide +kernel) ?_
  refine x_iadd hx hb d_Ex_mantissaFrom_5 ?_
  refine lv_iconst (v := iI 1) hx hb d_Ex_mantissaFrom_6 rfl ?_
  refine x_isub hx hb d_Ex_mantissaFrom_7 ?_
  refine lv_istore (lv' := [(4, .int (iI ((lo + 53) - 1))), (2, .long (lI 0)), (0, .ref a), (1, .int (iI lo))]) hx hb d_Ex_mantissaFrom_8 hl (by decide) rfl (fun ls hl => ?_)
  have L10 : ∀ (nn : Nat) (t : Int) (bs : Int) (ls : Array Slot), (lo - 1 ≤ t ∧ t ≤ lo + 52) → (bs = V / 2 ^ (t + 1).toNat % 2 ^ (lo + 52 - t).toNat) → t + 1 - lo < (nn : Int) → lv_has ls 5 [(4, .int (iI t)), (2, .long (lI bs)), (0, .ref a), (1, .int (iI lo))] → W p l e (rd 2 44) s m ([.ref a, .int (iI lo)]).toArray below meth c s.heap [] 0 0 Q (F0 m 10 ls []) := by
    intro nn
    induction nn with
    | zero => intro t bs ls ht hbs hnn; exact absurd hnn (by omega)
    | succ nn ih =>
      intro t bs ls ht hbs hnn hl
      refine lv_iload hx hb d_Ex_mantissaFrom_10 (lv_at hl 0 rfl) ?_
      refine lv_iload_n hx hb d_Ex_mantissaFrom_12 rfl (lv_at hl 3 rfl) ?_
      refine x_icmp_lt (tgt := 35) hx hb d_Ex_mantissaFrom_13 (by decide) (by omega) (by omega) (fun c_13 => ?_) (fun c_13 => ?_)
      · refine lv_lload_n hx hb d_Ex_mantissaFrom_35 rfl (lv_at hl 1 rfl) ?_
        exact y_lret hx hb hr hlocks hQ (by rw [hbs, show t + 1 = lo by omega, show (lo + 52 - t).toNat = 53 by omega]) d_Ex_mantissaFrom_36
      · refine lv_lload_n hx hb d_Ex_mantissaFrom_16 rfl (lv_at hl 1 rfl) ?_
        refine x_ldc2 hx hb 2 (by decide +kernel) hown (hts _ wk_Ex_106) d_Ex_mantissaFrom_17 ?_
        refine x_lmul hx hb d_Ex_mantissaFrom_20 ?_
        refine lv_aload_n hx hb d_Ex_mantissaFrom_21 rfl (lv_at hl 2 rfl) ?_
        refine lv_iload hx hb d_Ex_mantissaFrom_22 (lv_at hl 0 rfl) ?_
        refine y_callV1 (V := .long (lI (V / 2 ^ t.toNat % 2))) S (c_Ex_bitAt l D aC a ad f mt ee V t hf hV (by omega)) t_Ex_108 (rm_ok (by decide) (by decide)) hK hN hP [0, 1] rfl 0 4 rfl rfl rfl hl.1 rfl (Nat.le_of_ble_eq_true rfl) d_Ex_mantissaFrom_24 ⟨Nat.zero_le _, Nat.zero_le _⟩ ?_
        refine x_ladd hx hb d_Ex_mantissaFrom_27 ?_
        refine lv_lstore_n (lv' := [(2, .long (lI ((bs * 2) + (V / 2 ^ t.toNat % 2)))), (4, .int (iI t)), (0, .ref a), (1, .int (iI lo))]) hx hb d_Ex_mantissaFrom_28 rfl hl (by decide) rfl (fun ls hl => ?_)
        refine lv_iinc (v := iI (t + (-1))) (lv' := [(4, .int (iI (t + (-1)))), (2, .long (lI ((bs * 2) + (V / 2 ^ t.toNat % 2)))), (0, .ref a), (1, .int (iI lo))]) hx hb d_Ex_mantissaFrom_29 hl (k := 1) rfl (iI_add _ _) (by decide) rfl (fun ls hl => ?_)
        refine lv_goto (tgt := 10) hx hb d_Ex_mantissaFrom_32 (by decide) ?_
        exact ih (t + (-1)) ((bs * 2) + (V / 2 ^ t.toNat % 2)) ls (by omega) (by rw [hbs, show (t + (-1) + 1).toNat = t.toNat by omega, show (lo + 52 - (t + (-1))).toNat = (lo + 52 - t).toNat + 1 by omega, show (t + 1).toNat = t.toNat + 1 by omega]; exact bits_step V _ _) (by omega) (lv_sub hl [0, 1, 2, 3] rfl)
  exact L10 _ (lo + 52) 0 ls (by omega) (by rw [show (lo + 52 - (lo + 52)).toNat = 0 by omega]; simp [Int.emod_one]) (n_lt _) (by rw [show ((lo + 52) : Int) = (lo + 53) - 1 by omega]; exact lv_sub hl [0, 1, 2, 3] rfl)
set_option maxHeartbeats 4000000 in
set_option maxRecDepth 100000 in
theorem c_Ex_hasBitUnder (l : Launch) (D : va_G) (aC : Nat → ClassId) (a ad : Nat) (f : Int → Int) (mt ee : Int) (V lo : Int) (hf : Nr f V) (hV : 0 ≤ V ∧ V < bigV) (hlo : 0 ≤ lo ∧ lo < 3024) : CR l D aC y_Ex_hasBitUnder (rd 1 22) [.ref a, .int (iI lo)] [(a, .inr (4, [.ref ad, .long (lI mt), .int (iI ee)])), (ad, eJ aC 112 f)] (fun v => v = some (.int (iI (zP (V % 2 ^ lo.toNat ≠ 0))))) := by
  refine CR.of (cc := b_Ex_hasBitUnder) (maxL := 5) (ret := (some .boolean)) (by decide +kernel) k_Ex_hasBitUnder (Nat.le_of_ble_eq_true rfl) ?_
  intro p e s m below meth c Q S hr hlocks hQ hK hN hP ls hl
  obtain ⟨hx, hb, hml, hown, hts⟩ := id S
  have hl : lv_has ls 5 [(0, .ref a), (1, .int (iI lo))] := hl
  have hfr : ∀ j : Int, 0 ≤ j → j < 112 → -134217728 ≤ f j ∧ f j < 134217728 := fun j h1 h2 => by
    rcases (show j < 111 ∨ j = 111 by omega) with q | q
    · have := hf.at h1 q; omega
    · subst q; have := hf.topr (V := V) (by have := bigV_pos; omega); omega
  refine lv_iload_n hx hb d_Ex_hasBitUnder_0 rfl (lv_at hl 1 rfl) ?_
  refine lv_bipush (v := iI 27) hx hb d_Ex_hasBitUnder_1 (by decide +kernel) ?_
  refine y_callS1 (V := .int (iI (lo / 27))) S (c_floorDiv l D aC lo (by omega)) t_Ex_25 (rm_ok (by decide) (by decide)) hK hN hP [] rfl rfl hl.1 rfl (Nat.le_of_ble_eq_true rfl) d_Ex_hasBitUnder_3 ⟨Nat.zero_le _, Nat.zero_le _⟩ ?_
  refine lv_istore_n (lv' := [(2, .int (iI (lo / 27))), (0, .ref a), (1, .int (iI lo))]) hx hb d_Ex_hasBitUnder_6 rfl hl (by decide) rfl (fun ls hl => ?_)
  refine lv_iconst (v := iI 0) hx hb d_Ex_hasBitUnder_7 rfl ?_
  refine lv_istore_n (lv' := [(3, .int (iI 0)), (2, .int (iI (lo / 27))), (0, .ref a), (1, .int (iI lo))]) hx hb d_Ex_hasBitUnder_8 rfl hl (by decide) rfl (fun ls hl => ?_)
  have L9 : ∀ (nn : Nat) (t : Int) (ls : Array Slot), (0 ≤ t ∧ t ≤ lo / 27) → (∀ j : Int, 0 ≤ j → j < t → f j = 0) → lo / 27 - t < (nn : Int) → lv_has ls 5 [(3, .int (iI t)), (2, .int (iI (lo / 27))), (0, .ref a), (1, .int (iI lo))] → W p l e (rd 1 22) s m ([.ref a, .int (iI lo)]).toArray below meth c s.heap [] 0 0 Q (F0 m 9 ls []) := by
    intro nn
    induction nn with
    | zero => intro t ls ht hz hnn; exact absurd hnn (by omega)
    | succ nn ih =>
      intro t ls ht hz hnn hl
      refine lv_iload_n hx hb d_Ex_hasBitUnder_9 rfl (lv_at hl 0 rfl) ?_
      refine lv_iload_n hx hb d_Ex_hasBitUnder_10 rfl (lv_at hl 1 rfl) ?_
      refine x_icmp_ge (tgt := 39) hx hb d_Ex_hasBitUnder_11 (by decide) (by omega) (by omega) (fun c_11 => ?_) (fun c_11 => ?_)
      · refine lv_lconst (v := lI 1) hx hb d_Ex_hasBitUnder_39 (by decide +kernel) ?_
        refine lv_iload_n hx hb d_Ex_hasBitUnder_40 rfl (lv_at hl 3 rfl) ?_
        refine lv_bipush (v := iI 27) hx hb d_Ex_hasBitUnder_41 (by decide +kernel) ?_
        refine y_callS1 (V := .int (iI (lo % 27))) S (c_floorMod l D aC lo (by omega)) t_Ex_31 (rm_ok (by decide) (by decide)) hK hN hP [] rfl rfl hl.1 rfl (Nat.le_of_ble_eq_true rfl) d_Ex_hasBitUnder_43 ⟨Nat.zero_le _, Nat.zero_le _⟩ ?_
        refine x_lshl hx hb d_Ex_hasBitUnder_46 (by omega) ?_
        refine lv_lconst (v := lI 1) hx hb d_Ex_hasBitUnder_47 (by decide +kernel) ?_
        refine x_lsub hx hb d_Ex_hasBitUnder_48 ?_
        refine lv_lstore_n (lv' := [(3, .long (lI ((1 * 2 ^ (lo % 27).toNat) - 1))), (2, .int (iI (lo / 27))), (0, .ref a), (1, .int (iI lo))]) hx hb d_Ex_hasBitUnder_49 rfl hl (by decide) rfl (fun ls hl => ?_)
        refine lv_iload_n hx hb d_Ex_hasBitUnder_50 rfl (lv_at hl 1 rfl) ?_
        refine x_if_lt (tgt := 77) hx hb d_Ex_hasBitUnder_51 (by decide) (by omega) (fun c_51 => (by exfalso; omega)) (fun c_51 => ?_)
        refine lv_iload_n hx hb d_Ex_hasBitUnder_54 rfl (lv_at hl 1 rfl) ?_
        refine lv_bipush (v := iI 112) hx hb d_Ex_hasBitUnder_55 (by decide +kernel) ?_
        refine x_icmp_ge (tgt := 77) hx hb d_Ex_hasBitUnder_57 (by decide) (by omega) (by omega) (fun c_57 => (by exfalso; omega)) (fun c_57 => ?_)
        refine lv_aload_n hx hb d_Ex_hasBitUnder_60 rfl (lv_at hl 2 rfl) ?_
        refine va_get (D := D) (ci := 4) (v := .ref ad) (C := R_Ex) (T := F_Ex) (N := 3) hx hb hts i_Ex hown hK hP 0 rfl rfl 0 (by decide) (hts _ wf_Ex_9) (fun _ h9 => h9) rfl d_Ex_hasBitUnder_61 ?_
        refine lv_iload_n hx hb d_Ex_hasBitUnder_64 rfl (lv_at hl 1 rfl) ?_
        refine x_lald hx hb hK hP 1 rfl (by omega) (by decide) d_Ex_hasBitUnder_65 ?_
        refine lv_lload_n hx hb d_Ex_hasBitUnder_66 rfl (lv_at hl 0 rfl) ?_
        refine x_land (v := ((f (lo / 27)) % 2 ^ (lo % 27).toNat)) hx hb d_Ex_hasBitUnder_67 (by rw [Int.one_mul]; exact lI_mask _ _ (by omega)) ?_
        refine lv_lconst (v := lI 0) hx hb d_Ex_hasBitUnder_68 (by decide +kernel) ?_
        refine x_lcmp_eq (tgt := 77) hx hb d_Ex_hasBitUnder_69 d_Ex_hasBitUnder_70 (by decide) (by have := Int.emod_nonneg (f (lo / 27)) (Int.ne_of_gt (p2_pos (lo % 27).toNat)); have := Int.emod_lt_of_pos (f (lo / 27)) (p2_pos (lo % 27).toNat); have := p2_le (show (lo % 27).toNat ≤ 27 by omega); rw [p27] at this; omega) (by omega) (fun c_69 => ?_) (fun c_69 => ?_)
        · refine lv_iconst (v := iI 0) hx hb d_Ex_hasBitUnder_77 rfl ?_
          exact y_zret hx hb hr (rfl) hlocks hQ (by rw [zP_f (P := V % 2 ^ lo.toNat ≠ 0) (fun q => q ((hf.under hlo).mpr ⟨fun j h1 h2 => hz j h1 (by omega), c_69⟩))]) d_Ex_hasBitUnder_78
        · refine lv_iconst (v := iI 1) hx hb d_Ex_hasBitUnder_73 rfl ?_
          refine lv_goto (tgt := 78) hx hb d_Ex_hasBitUnder_74 (by decide) ?_
          exact y_zret hx hb hr (rfl) hlocks hQ (by rw [zP_t (P := V % 2 ^ lo.toNat ≠ 0) (fun q => c_69 ((hf.under hlo).mp q).2)]) d_Ex_hasBitUnder_78
      · refine lv_iload_n hx hb d_Ex_hasBitUnder_14 rfl (lv_at hl 0 rfl) ?_
        refine lv_bipush (v := iI 112) hx hb d_Ex_hasBitUnder_15 (by decide +kernel) ?_
        refine x_icmp_ge (tgt := 39) hx hb d_Ex_hasBitUnder_17 (by decide) (by omega) (by omega) (fun c_17 => (by exfalso; omega)) (fun c_17 => ?_)
        refine lv_aload_n hx hb d_Ex_hasBitUnder_20 rfl (lv_at hl 2 rfl) ?_
        refine va_get (D := D) (ci := 4) (v := .ref ad) (C := R_Ex) (T := F_Ex) (N := 3) hx hb hts i_Ex hown hK hP 0 rfl rfl 0 (by decide) (hts _ wf_Ex_9) (fun _ h9 => h9) rfl d_Ex_hasBitUnder_21 ?_
        refine lv_iload_n hx hb d_Ex_hasBitUnder_24 rfl (lv_at hl 0 rfl) ?_
        refine x_lald hx hb hK hP 1 rfl (by omega) (by decide) d_Ex_hasBitUnder_25 ?_
        refine lv_lconst (v := lI 0) hx hb d_Ex_hasBitUnder_26 (by decide +kernel) ?_
        refine x_lcmp_eq (tgt := 33) hx hb d_Ex_hasBitUnder_27 d_Ex_hasBitUnder_28 (by decide) (by have := hfr t (by omega) (by omega); omega) (by omega) (fun c_27 => ?_) (fun c_27 => ?_)
        · refine lv_iinc (v := iI (t + 1)) (lv' := [(3, .int (iI (t + 1))), (2, .int (iI (lo / 27))), (0, .ref a), (1, .int (iI lo))]) hx hb d_Ex_hasBitUnder_33 hl (k := 0) rfl (iI_add _ _) (by decide) rfl (fun ls hl => ?_)
          refine lv_goto (tgt := 9) hx hb d_Ex_hasBitUnder_36 (by decide) ?_
          exact ih (t + 1) ls (by omega) (fun j h1 h2 => by
            by_cases hj : j = t
            · rw [hj]; exact c_27
            · exact hz j h1 (by omega)) (by omega) (lv_sub hl [0, 1, 2, 3] rfl)
        · refine lv_iconst (v := iI 1) hx hb d_Ex_hasBitUnder_31 rfl ?_
          exact y_zret hx hb hr (rfl) hlocks hQ (by rw [zP_t (P := V % 2 ^ lo.toNat ≠ 0) (fun q => c_27 ((hf.under hlo).mp q |>.1 t (by omega) (by omega)))]) d_Ex_hasBitUnder_32
  exact L9 _ 0 ls (by omega) (fun j h1 h2 => by omega) (n_lt _) (lv_sub hl [0, 1, 2, 3] rfl)
