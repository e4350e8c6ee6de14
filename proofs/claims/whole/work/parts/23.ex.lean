/-- the digits of an exact number: how large they may be; settled ones -/
def Bd (n : Int) (f : Int → Int) : Prop := ∀ j : Int, 0 ≤ j → j < 112 → -(n * 268435456) ≤ f j ∧ f j ≤ n * 268435456
def Nr (f : Int → Int) (V : Int) : Prop := nrm 27 f 111 ∧ dg 27 f 112 = V
theorem Bd.mono {n m : Int} {f : Int → Int} (h : Bd n f) (hm : n ≤ m) : Bd m f := fun j h1 h2 => by have := h j h1 h2; omega
theorem ex_zero {g : Int → Int} (hg : ∀ j : Int, 0 ≤ j → j < ((112 : Nat) : Int) → g j = 0) : dg 27 g 112 = 0 ∧ Bd 0 g := ⟨dg_zero 112 hg, fun j h1 h2 => by rw [hg j h1 h2]; omega⟩
theorem ex_step {f : Int → Int} {d lo hi : Int} (hd : 0 ≤ d) (hn : d + 1 < 112) : dg 27 (updI (updI f d (f d + lo)) (d + 1) (updI f d (f d + lo) (d + 1) + hi)) 112 = dg 27 f 112 + (lo + hi * 134217728) * 2 ^ (27 * d.toNat) := by
  rw [dg_upd (by omega) 112 (by omega), dg_upd hd 112 (by omega), show (d + 1).toNat = d.toNat + 1 by omega, Nat.mul_succ, p2_add, p27]
  rw [show f d + lo - f d = lo by omega, show updI f d (f d + lo) (d + 1) + hi - updI f d (f d + lo) (d + 1) = hi by omega, Int.add_mul, Int.mul_assoc hi, Int.mul_comm 134217728]
  omega
theorem ex_loop {g f pd : Int → Int} {t at' sh pl sg pt lo hi : Int} (ht : 0 ≤ t ∧ t < 6) (ha : 0 ≤ at') (ha2 : at' + 6 < 112) (hpl : pl = 27 * at' + sh) (hs : 0 ≤ sh) (hsum : dg 27 g 112 = dg 27 f 112 + sg * dg 27 pd t.toNat * 2 ^ pl.toNat) (hpt : pd t * 2 ^ sh.toNat = pt) (hlo : lo = sg * (pt % 134217728)) (hhi : hi = sg * (pt / 134217728)) :
    dg 27 (updI (updI g (at' + t) (g (at' + t) + lo)) (at' + t + 1) (updI g (at' + t) (g (at' + t) + lo) (at' + t + 1) + hi)) 112 = dg 27 f 112 + sg * dg 27 pd (t + 1).toNat * 2 ^ pl.toNat := by
  rw [ex_step (by omega) (by omega), hsum, show (t + 1).toNat = t.toNat + 1 by omega]
  show _ = dg 27 f 112 + sg * (dg 27 pd t.toNat + pd (t.toNat : Int) * 2 ^ (27 * t.toNat)) * 2 ^ pl.toNat
  rw [show ((t.toNat : Nat) : Int) = t by omega]
  have e1 : sg * (pt % 134217728) + sg * (pt / 134217728) * 134217728 = sg * pt := by
    rw [Int.mul_assoc, ← Int.mul_add, Int.mul_comm (pt / 134217728), emod_add_div]
  have e2 : sg * (pd t * 2 ^ (27 * t.toNat)) * 2 ^ pl.toNat = sg * pt * 2 ^ (27 * (at' + t).toNat) := by
    rw [← hpt, Int.mul_assoc sg, Int.mul_assoc sg, Int.mul_assoc (pd t), Int.mul_assoc (pd t), ← p2_add, ← p2_add, show 27 * t.toNat + pl.toNat = sh.toNat + 27 * (at' + t).toNat by omega]
  have e3 : sg * (dg 27 pd t.toNat + pd t * 2 ^ (27 * t.toNat)) * 2 ^ pl.toNat = sg * dg 27 pd t.toNat * 2 ^ pl.toNat + sg * (pd t * 2 ^ (27 * t.toNat)) * 2 ^ pl.toNat := by rw [Int.mul_add, Int.add_mul]
  rw [e3, e2, hlo, hhi, e1]; omega
theorem ex_bd {g f : Int → Int} {c lo hi : Int} (hc : 0 ≤ c) (hlo : -134217727 ≤ lo ∧ lo ≤ 134217727) (hhi : -134217727 ≤ hi ∧ hi ≤ 134217727)
    (h : ∀ j : Int, 0 ≤ j → j < 112 → (j < c → -268435454 ≤ g j - f j ∧ g j - f j ≤ 268435454) ∧ (j = c → -134217727 ≤ g j - f j ∧ g j - f j ≤ 134217727) ∧ (c < j → g j = f j)) :
    ∀ j : Int, 0 ≤ j → j < 112 → (j < c + 1 → -268435454 ≤ updI (updI g c (g c + lo)) (c + 1) (updI g c (g c + lo) (c + 1) + hi) j - f j ∧ updI (updI g c (g c + lo)) (c + 1) (updI g c (g c + lo) (c + 1) + hi) j - f j ≤ 268435454) ∧ (j = c + 1 → -134217727 ≤ updI (updI g c (g c + lo)) (c + 1) (updI g c (g c + lo) (c + 1) + hi) j - f j ∧ updI (updI g c (g c + lo)) (c + 1) (updI g c (g c + lo) (c + 1) + hi) j - f j ≤ 134217727) ∧ (c + 1 < j → updI (updI g c (g c + lo)) (c + 1) (updI g c (g c + lo) (c + 1) + hi) j = f j) := by
  intro j h1 h2
  obtain ⟨a1, a2, a3⟩ := h j h1 h2
  by_cases e1 : j = c + 1
  · subst e1
    rw [updI_s, updI_n (by omega)]
    have := a3 (by omega)
    omega
  · rw [updI_n e1]
    by_cases e2 : j = c
    · subst e2
      rw [updI_s]
      have := a2 rfl
      omega
    · rw [updI_n e2]
      omega
theorem ex_bd_end {g f : Int → Int} {n c : Int} (hb : Bd n f) (h : ∀ j : Int, 0 ≤ j → j < 112 → (j < c → -268435454 ≤ g j - f j ∧ g j - f j ≤ 268435454) ∧ (j = c → -134217727 ≤ g j - f j ∧ g j - f j ≤ 134217727) ∧ (c < j → g j = f j)) : Bd (n + 1) g := fun j h1 h2 => by
  have a := hb j h1 h2
  obtain ⟨a1, a2, a3⟩ := h j h1 h2
  rcases (show j < c ∨ j = c ∨ c < j by omega) with q | q | q
  · have := a1 q; omega
  · have := a2 q; omega
  · have := a3 q; omega
theorem pt_rng {x s : Int} (hx : 0 ≤ x ∧ x < 134217728) (hs : 0 ≤ s ∧ s < 27) : 0 ≤ x * 2 ^ s.toNat ∧ x * 2 ^ s.toNat < 9007199254740992 := by
  have h1 := p2_pos s.toNat
  have h2 := p2_le (show s.toNat ≤ 26 by omega)
  have e : (2 : Int) ^ 26 = 67108864 := rfl
  rw [e] at h2
  have := mul_rng hx.1 (show x ≤ 134217727 by omega) (Int.le_of_lt h1) h2
  omega
/-- carrying on -/
theorem se_step {g f : Int → Int} {t cy S : Int} (ht : 0 ≤ t) (hg : g t = f t) (h : dg 27 g t.toNat + cy * 2 ^ (27 * t.toNat) = dg 27 f t.toNat) (hS : g t + cy = S) : dg 27 (updI g t (S % 134217728)) (t + 1).toNat + S / 134217728 * 2 ^ (27 * (t + 1).toNat) = dg 27 f (t + 1).toNat := by
  rw [show (t + 1).toNat = t.toNat + 1 by omega]
  show dg 27 (updI g t (S % 134217728)) t.toNat + updI g t (S % 134217728) (t.toNat : Int) * 2 ^ (27 * t.toNat) + _ = dg 27 f t.toNat + f (t.toNat : Int) * 2 ^ (27 * t.toNat)
  rw [show ((t.toNat : Nat) : Int) = t by omega, dg_out (by omega), updI_s, ← h, ← hg, Nat.mul_succ, p2_add, p27]
  generalize (2 : Int) ^ (27 * t.toNat) = w
  have e1 : S % 134217728 * w + S / 134217728 * (w * 134217728) = S * w := by
    have := emod_add_div S 134217728
    rw [← Int.mul_assoc, Int.mul_comm (S / 134217728) w, Int.mul_comm (S % 134217728) w, Int.mul_assoc, ← Int.mul_add, Int.mul_comm (S / 134217728) 134217728, this, Int.mul_comm]
  rw [← hS, Int.add_mul] at e1
  rw [← hS]
  omega
theorem se_end {g f : Int → Int} {t cy n : Int} (ht : t = 111) (hn : 0 ≤ n ∧ n ≤ 1048576) (hb : Bd n f) (hcy : -(2 * n + 2) ≤ cy ∧ cy ≤ 2 * n + 2) (hg1 : ∀ j : Int, 0 ≤ j → j < t → 0 ≤ g j ∧ g j < 134217728) (hg2 : ∀ j : Int, t ≤ j → j < 112 → g j = f j) (h : dg 27 g t.toNat + cy * 2 ^ (27 * t.toNat) = dg 27 f t.toNat) : Nr (updI g 111 (g 111 + cy)) (dg 27 f 112) ∧ Bd (n + 1) (updI g 111 (g 111 + cy)) := by
  subst ht
  refine ⟨⟨fun j h1 h2 => ?_, ?_⟩, fun j h1 h2 => ?_⟩
  · rw [updI_n (by omega), p27]; exact hg1 j h1 (by omega)
  · change dg 27 g 111 + cy * 2 ^ (27 * 111) = dg 27 f 111 at h
    show dg 27 (updI g 111 (g 111 + cy)) 111 + updI g 111 (g 111 + cy) 111 * 2 ^ (27 * 111) = dg 27 f 111 + f 111 * 2 ^ (27 * 111)
    rw [dg_out (by decide), updI_s, ← h, hg2 111 (by omega) (by omega), Int.add_mul]; omega
  · by_cases e : j = 111
    · subst e
      rw [updI_s, hg2 111 (by omega) (by omega)]
      have := hb 111 h1 h2; omega
    · rw [updI_n e]
      have := hg1 j h1 (by omega); omega

set_option maxHeartbeats 4000000 in
set_option maxRecDepth 100000 in
theorem c_Ex_clear (l : Launch) (D : va_G) (aC : Nat → ClassId) (a ad : Nat) (f : Int → Int) (mt ee : Int) : CT l D aC y_Ex_clear (rd 1 24) [.ref a] [(a, .inr (4, [.ref ad, .long (lI mt), .int (iI ee)])), (ad, eJ aC 112 f)] (fun v w => v = none ∧ ∃ g : Int → Int, w = [(a, .inr (4, [.ref ad, .long (lI mt), .int (iI ee)])), (ad, eJ aC 112 g)] ∧ dg 27 g 112 = 0 ∧ Bd 0 g) := by
  refine CT.of (cc := b_Ex_clear) (maxL := 1) (ret := none) (by decide +kernel) k_Ex_clear (Nat.le_of_ble_eq_true rfl) ?_
  intro p e s m below meth c Q S hr hlocks hQ hK hN hP hD hS ls hl
  obtain ⟨hx, hb, hml, hown, hts⟩ := id S
  have hl : lv_has ls 1 [(0, .ref a)] := hl
  refine lv_aload_n hx hb d_Ex_clear_0 rfl (lv_at hl 0 rfl) ?_
  refine va_get (D := D) (ci := 4) (v := .ref ad) (C := R_Ex) (T := F_Ex) (N := 3) hx hb hts i_Ex hown hK hP 0 rfl rfl 0 (by decide) (hts _ wf_Ex_9) (fun _ h9 => h9) rfl d_Ex_clear_1 ?_
  refine lv_lconst (v := lI 0) hx hb d_Ex_clear_4 (by decide +kernel) ?_
  refine x_callS0F S (c_fill l D aC ad 112 f 0 (by decide)) t_Ex_13 (rm_ok (by decide) (by decide)) hK hN hP hD hS [1] [] rfl rfl (fun w9 hw => by obtain ⟨g1, rfl, hg1⟩ := hw; exact ⟨rfl, Nat.le_of_ble_eq_true rfl⟩) rfl hl.1 rfl (Nat.le_of_ble_eq_true rfl) d_Ex_clear_5 ⟨Nat.zero_le _, Nat.zero_le _⟩ (fun w1 ws1 H locs e9 hw hP hD hS => ?_)
  obtain ⟨g1, rfl, hg1⟩ := hw
  have e9 : ws1 = [(a, .inr (4, [.ref ad, .long (lI mt), .int (iI ee)])), (ad, eJ aC 112 g1)] := e9
  subst e9
  exact x_vret hx hb hr hlocks hQ (⟨rfl, _, rfl, ex_zero hg1⟩) rfl hP hS d_Ex_clear_8
set_option maxHeartbeats 4000000 in
set_option maxRecDepth 100000 in
theorem c_Ex_addAt (l : Launch) (D : va_G) (aC : Nat → ClassId) (a ad : Nat) (f : Int → Int) (mt ee : Int) (d x : Int) (hd : 0 ≤ d ∧ d < 112) : CT l D aC y_Ex_addAt (rd 0 0) [.ref a, .int (iI d), .long (lI x)] [(a, .inr (4, [.ref ad, .long (lI mt), .int (iI ee)])), (ad, eJ aC 112 f)] (fun v w => v = none ∧ w = [(a, .inr (4, [.ref ad, .long (lI mt), .int (iI ee)])), (ad, eJ aC 112 (updI f d (f d + x)))]) := by
  refine CT.of (cc := b_Ex_addAt) (maxL := 4) (ret := none) (by decide +kernel) k_Ex_addAt (Nat.le_of_ble_eq_true rfl) ?_
  intro p e s m below meth c Q S hr hlocks hQ hK hN hP hD hS ls hl
  obtain ⟨hx, hb, hml, hown, hts⟩ := id S
  have hl : lv_has ls 4 [(0, .ref a), (1, .int (iI d)), (2, .long (lI x))] := hl
  refine lv_iload_n hx hb d_Ex_addAt_0 rfl (lv_at hl 1 rfl) ?_
  refine x_if_lt (tgt := 20) hx hb d_Ex_addAt_1 (by decide) (by omega) (fun c_1 => (by exfalso; omega)) (fun c_1 => ?_)
  refine lv_iload_n hx hb d_Ex_addAt_4 rfl (lv_at hl 1 rfl) ?_
  refine lv_bipush (v := iI 112) hx hb d_Ex_addAt_5 (by decide +kernel) ?_
  refine x_icmp_ge (tgt := 20) hx hb d_Ex_addAt_7 (by decide) (by omega) (by omega) (fun c_7 => (by exfalso; omega)) (fun c_7 => ?_)
  refine lv_aload_n hx hb d_Ex_addAt_10 rfl (lv_at hl 0 rfl) ?_
  refine va_get (D := D) (ci := 4) (v := .ref ad) (C := R_Ex) (T := F_Ex) (N := 3) hx hb hts i_Ex hown hK hP 0 rfl rfl 0 (by decide) (hts _ wf_Ex_9) (fun _ h9 => h9) rfl d_Ex_addAt_11 ?_
  refine lv_iload_n hx hb d_Ex_addAt_14 rfl (lv_at hl 1 rfl) ?_
  refine lv_dup2_11 hx hb d_Ex_addAt_15 rfl rfl ?_
  refine x_lald hx hb hK hP 1 rfl (by omega) (by decide) d_Ex_addAt_16 ?_
  refine lv_lload_n hx hb d_Ex_addAt_17 rfl (lv_at hl 2 rfl) ?_
  refine x_ladd hx hb d_Ex_addAt_18 ?_
  refine x_last hx hb hK hP hD hS 1 rfl (by omega) (by decide) d_Ex_addAt_19 (fun H locs hP hD hS => ?_)
  have hP : va_P D CL [(a, .inr (4, [.ref ad, .long (lI mt), .int (iI ee)])), (ad, eJ aC 112 (updI f d ((f d) + x)))] H := hP
  have hD : va_D (aW [(a, .inr (4, [.ref ad, .long (lI mt), .int (iI ee)])), (ad, eJ aC 112 f)]) [(a, .inr (4, [.ref ad, .long (lI mt), .int (iI ee)])), (ad, eJ aC 112 (updI f d ((f d) + x)))] := hD
  exact x_vret hx hb hr hlocks hQ (⟨rfl, rfl⟩) rfl hP hS d_Ex_addAt_20
set_option maxHeartbeats 4000000 in
set_option maxRecDepth 100000 in
theorem c_Ex_add_0 (l : Launch) (D : va_G) (aC : Nat → ClassId) (a ad : Nat) (f : Int → Int) (mt ee : Int) (b bd : Nat) (pd : Int → Int) (ex n : Int) (hp : nrm 27 pd 6) (hex : 0 ≤ ex + 1539 ∧ ex + 1539 ≤ 2861) (hbd : Bd n f) : CT l D aC y_Ex_add (rd 1 23) [.ref a, .ref b] [(a, .inr (4, [.ref ad, .long (lI mt), .int (iI ee)])), (ad, eJ aC 112 f), (b, .inr (3, [.ref bd, .int (iI ex), .int (iI 0)])), (bd, eJ aC 6 pd)] (fun v w => v = none ∧ ∃ g : Int → Int, w = [(a, .inr (4, [.ref ad, .long (lI mt), .int (iI ee)])), (ad, eJ aC 112 g), (b, .inr (3, [.ref bd, .int (iI ex), .int (iI 0)])), (bd, eJ aC 6 pd)] ∧ dg 27 g 112 = dg 27 f 112 + (1) * dg 27 pd 6 * 2 ^ (ex + 1539).toNat ∧ Bd (n + 1) g) := by
  refine CT.of (cc := b_Ex_add) (maxL := 12) (ret := none) (by decide +kernel) k_Ex_add (Nat.le_of_ble_eq_true rfl) ?_
  intro p e s m below meth c Q S hr hlocks hQ hK hN hP hD hS ls hl
  obtain ⟨hx, hb, hml, hown, hts⟩ := id S
  have hl : lv_has ls 12 [(0, .ref a), (1, .ref b)] := hl
  refine lv_aload_n hx hb d_Ex_add_0 rfl (lv_at hl 1 rfl) ?_
  refine va_getN (D := D) (ci := 3) (v := .int (iI ex)) (C := R_Pr) (T := F_Pr) (N := 3) hx hb hts i_Pr hown hK hP 2 rfl rfl 1 (by decide) (va_Nw.use rfl (hN _ wf_Ex_19)) (fun _ h9 => h9) rfl d_Ex_add_1 ?_
  refine lv_sipush (v := iI 1539) hx hb d_Ex_add_4 (by decide +kernel) ?_
  refine x_iadd hx hb d_Ex_add_7 ?_
  refine lv_istore_n (lv' := [(2, .int (iI (ex + 1539))), (0, .ref a), (1, .ref b)]) hx hb d_Ex_add_8 rfl hl (by decide) rfl (fun ls hl => ?_)
  refine lv_iload_n hx hb d_Ex_add_9 rfl (lv_at hl 0 rfl) ?_
  refine lv_bipush (v := iI 27) hx hb d_Ex_add_10 (by decide +kernel) ?_
  refine y_callS1 (V := .int (iI ((ex + 1539) / 27))) S (c_floorDiv l D aC (ex + 1539) (by omega)) t_Ex_25 (rm_ok (by decide) (by decide)) hK hN hP [] rfl rfl hl.1 rfl (Nat.le_of_ble_eq_true rfl) d_Ex_add_12 ⟨Nat.zero_le _, Nat.zero_le _⟩ ?_
  refine lv_istore_n (lv' := [(3, .int (iI ((ex + 1539) / 27))), (2, .int (iI (ex + 1539))), (0, .ref a), (1, .ref b)]) hx hb d_Ex_add_15 rfl hl (by decide) rfl (fun ls hl => ?_)
  refine lv_iload_n hx hb d_Ex_add_16 rfl (lv_at hl 1 rfl) ?_
  refine lv_bipush (v := iI 27) hx hb d_Ex_add_17 (by decide +kernel) ?_
  refine y_callS1 (V := .int (iI ((ex + 1539) % 27))) S (c_floorMod l D aC (ex + 1539) (by omega)) t_Ex_31 (rm_ok (by decide) (by decide)) hK hN hP [] rfl rfl hl.1 rfl (Nat.le_of_ble_eq_true rfl) d_Ex_add_19 ⟨Nat.zero_le _, Nat.zero_le _⟩ ?_
  refine lv_istore (lv' := [(4, .int (iI ((ex + 1539) % 27))), (3, .int (iI ((ex + 1539) / 27))), (2, .int (iI (ex + 1539))), (0, .ref a), (1, .ref b)]) hx hb d_Ex_add_22 hl (by decide) rfl (fun ls hl => ?_)
  refine lv_iconst (v := iI 0) hx hb d_Ex_add_24 rfl ?_
  refine lv_istore (lv' := [(5, .int (iI 0)), (4, .int (iI ((ex + 1539) % 27))), (3, .int (iI ((ex + 1539) / 27))), (2, .int (iI (ex + 1539))), (0, .ref a), (1, .ref b)]) hx hb d_Ex_add_25 hl (by decide) rfl (fun ls hl => ?_)
  have L27 : ∀ (nn : Nat) (t : Int) (g : Int → Int) (H : Heap) (locs : List Loc) (ls : Array Slot), (0 ≤ t ∧ t ≤ 6) → (dg 27 g 112 = dg 27 f 112 + (1) * dg 27 pd t.toNat * 2 ^ (ex + 1539).toNat) → (∀ j : Int, 0 ≤ j → j < 112 → (j < (ex + 1539) / 27 + t → -268435454 ≤ g j - f j ∧ g j - f j ≤ 268435454) ∧ (j = (ex + 1539) / 27 + t → -134217727 ≤ g j - f j ∧ g j - f j ≤ 134217727) ∧ ((ex + 1539) / 27 + t < j → g j = f j)) → 6 - t < (nn : Int) → va_P D CL [(a, .inr (4, [.ref ad, .long (lI mt), .int (iI ee)])), (ad, eJ aC 112 g), (b, .inr (3, [.ref bd, .int (iI ex), .int (iI 0)])), (bd, eJ aC 6 pd)] H → va_D (aW [(a, .inr (4, [.ref ad, .long (lI mt), .int (iI ee)])), (ad, eJ aC 112 f), (b, .inr (3, [.ref bd, .int (iI ex), .int (iI 0)])), (bd, eJ aC 6 pd)]) [(a, .inr (4, [.ref ad, .long (lI mt), .int (iI ee)])), (ad, eJ aC 112 g), (b, .inr (3, [.ref bd, .int (iI ex), .int (iI 0)])), (bd, eJ aC 6 pd)] → va_S (aW [(a, .inr (4, [.ref ad, .long (lI mt), .int (iI ee)])), (ad, eJ aC 112 f), (b, .inr (3, [.ref bd, .int (iI ex), .int (iI 0)])), (bd, eJ aC 6 pd)]) s.heap H locs → lv_has ls 12 [(5, .int (iI t)), (4, .int (iI ((ex + 1539) % 27))), (3, .int (iI ((ex + 1539) / 27))), (0, .ref a), (1, .ref b)] → W p l e (rd 1 23) s m ([.ref a, .ref b]).toArray below meth c H locs 0 0 Q (F0 m 27 ls []) := by
    intro nn
    induction nn with
    | zero => intro t g H locs ls ht hsum hgb hnn; exact absurd hnn (by omega)
    | succ nn ih =>
      intro t g H locs ls ht hsum hgb hnn hP hD hS hl
      refine lv_iload hx hb d_Ex_add_27 (lv_at hl 0 rfl) ?_
      refine lv_bipush (v := iI 6) hx hb d_Ex_add_29 (by decide +kernel) ?_
      refine x_icmp_ge (tgt := 115) hx hb d_Ex_add_31 (by decide) (by omega) (by omega) (fun c_31 => ?_) (fun c_31 => ?_)
      · exact x_vret hx hb hr hlocks hQ (⟨rfl, g, rfl, by rw [hsum, show t = 6 by omega]; rfl, ex_bd_end hbd hgb⟩) rfl hP hS d_Ex_add_115
      · refine lv_aload_n hx hb d_Ex_add_34 rfl (lv_at hl 4 rfl) ?_
        refine va_getN (D := D) (ci := 3) (v := .ref bd) (C := R_Pr) (T := F_Pr) (N := 3) hx hb hts i_Pr hown hK hP 2 rfl rfl 0 (by decide) (va_Nw.use rfl (hN _ wf_Ex_34)) (fun _ h9 => h9) rfl d_Ex_add_35 ?_
        refine lv_iload hx hb d_Ex_add_38 (lv_at hl 0 rfl) ?_
        refine x_lald hx hb hK hP 3 rfl (by omega) (by decide) d_Ex_add_40 ?_
        refine lv_iload hx hb d_Ex_add_41 (lv_at hl 1 rfl) ?_
        refine x_lshl hx hb d_Ex_add_43 (by omega) ?_
        obtain ⟨pt, hpt⟩ : ∃ z : Int, (pd t) * 2 ^ ((ex + 1539) % 27).toNat = z := ⟨_, rfl⟩
        refine x_topl _ pt hpt ?_
        have hptr : 0 ≤ pt ∧ pt < 9007199254740992 := by rw [← hpt]; exact pt_rng (by have := hp t (by omega) (by omega); rw [p27] at this; exact this) (by omega)
        refine lv_lstore (lv' := [(6, .long (lI pt)), (5, .int (iI t)), (4, .int (iI ((ex + 1539) % 27))), (3, .int (iI ((ex + 1539) / 27))), (0, .ref a), (1, .ref b)]) hx hb d_Ex_add_44 hl (by decide) rfl (fun ls hl => ?_)
        refine lv_lload hx hb d_Ex_add_46 (lv_at hl 0 rfl) ?_
        refine x_ldc2 hx hb 134217727 (by decide +kernel) hown (hts _ wk_Ex_35) d_Ex_add_48 ?_
        refine x_land (v := (pt % 134217728)) hx hb d_Ex_add_51 (lI_m27 _) ?_
        refine lv_lstore (lv' := [(8, .long (lI (pt % 134217728))), (6, .long (lI pt)), (5, .int (iI t)), (4, .int (iI ((ex + 1539) % 27))), (3, .int (iI ((ex + 1539) / 27))), (0, .ref a), (1, .ref b)]) hx hb d_Ex_add_52 hl (by decide) rfl (fun ls hl => ?_)
        refine lv_lload hx hb d_Ex_add_54 (lv_at hl 1 rfl) ?_
        refine lv_bipush (v := iI 27) hx hb d_Ex_add_56 (by decide +kernel) ?_
        refine x_lushr hx hb d_Ex_add_58 (by omega) (by omega) ?_
        refine x_topl _ (pt / 134217728) rfl ?_
        refine lv_lstore (lv' := [(10, .long (lI (pt / 134217728))), (8, .long (lI (pt % 134217728))), (6, .long (lI pt)), (5, .int (iI t)), (4, .int (iI ((ex + 1539) % 27))), (3, .int (iI ((ex + 1539) / 27))), (0, .ref a), (1, .ref b)]) hx hb d_Ex_add_59 hl (by decide) rfl (fun ls hl => ?_)
        refine lv_aload_n hx hb d_Ex_add_61 rfl (lv_at hl 6 rfl) ?_
        refine lv_iload_n hx hb d_Ex_add_62 rfl (lv_at hl 5 rfl) ?_
        refine lv_iload hx hb d_Ex_add_63 (lv_at hl 3 rfl) ?_
        refine x_iadd hx hb d_Ex_add_65 ?_
        refine lv_aload_n hx hb d_Ex_add_66 rfl (lv_at hl 7 rfl) ?_
        refine va_getN (D := D) (ci := 3) (v := .int (iI 0)) (C := R_Pr) (T := F_Pr) (N := 3) hx hb hts i_Pr hown hK hP 2 rfl rfl 2 (by decide) (va_Nw.use rfl (hN _ wf_Ex_37)) (fun _ h9 => h9) rfl d_Ex_add_67 ?_
        refine x_if_eq (tgt := 79) hx hb d_Ex_add_70 (by decide) (by decide) (fun c_70 => ?_) (fun c_70 => (by exfalso; omega))
        refine lv_lload hx hb d_Ex_add_79 (lv_at hl 1 rfl) ?_
        refine x_callV0F S (c_Ex_addAt l D aC a ad g mt ee (((ex + 1539) / 27) + t) (pt % 134217728) (by omega)) t_Ex_41 (rm_ok (by decide) (by decide)) hK hN hP hD hS [0, 1] [] rfl rfl (fun w9 hw => by obtain rfl := hw; exact ⟨rfl, Nat.le_of_ble_eq_true rfl⟩) 0 4 rfl rfl rfl hl.1 rfl (Nat.le_of_ble_eq_true rfl) d_Ex_add_81 ⟨Nat.zero_le _, Nat.zero_le _⟩ (fun w1 ws1 H locs e9 hw hP hD hS => ?_)
        obtain rfl := hw
        have e9 : ws1 = [(a, .inr (4, [.ref ad, .long (lI mt), .int (iI ee)])), (ad, eJ aC 112 (updI g (((ex + 1539) / 27) + t) (g (((ex + 1539) / 27) + t) + (pt % 134217728)))), (b, .inr (3, [.ref bd, .int (iI ex), .int (iI 0)])), (bd, eJ aC 6 pd)] := e9
        subst e9
        refine lv_aload_n hx hb d_Ex_add_84 rfl (lv_at hl 6 rfl) ?_
        refine lv_iload_n hx hb d_Ex_add_85 rfl (lv_at hl 5 rfl) ?_
        refine lv_iload hx hb d_Ex_add_86 (lv_at hl 3 rfl) ?_
        refine x_iadd hx hb d_Ex_add_88 ?_
        refine lv_iconst (v := iI 1) hx hb d_Ex_add_89 rfl ?_
        refine x_iadd hx hb d_Ex_add_90 ?_
        refine lv_aload_n hx hb d_Ex_add_91 rfl (lv_at hl 7 rfl) ?_
        refine va_getN (D := D) (ci := 3) (v := .int (iI 0)) (C := R_Pr) (T := F_Pr) (N := 3) hx hb hts i_Pr hown hK hP 2 rfl rfl 2 (by decide) (va_Nw.use rfl (hN _ wf_Ex_37)) (fun _ h9 => h9) rfl d_Ex_add_92 ?_
        refine x_if_eq (tgt := 104) hx hb d_Ex_add_95 (by decide) (by decide) (fun c_95 => ?_) (fun c_95 => (by exfalso; omega))
        refine lv_lload hx hb d_Ex_add_104 (lv_at hl 0 rfl) ?_
        refine x_callV0F S (c_Ex_addAt l D aC a ad (updI g (((ex + 1539) / 27) + t) (g (((ex + 1539) / 27) + t) + (pt % 134217728))) mt ee ((((ex + 1539) / 27) + t) + 1) (pt / 134217728) (by omega)) t_Ex_41 (rm_ok (by decide) (by decide)) hK hN hP hD hS [0, 1] [] rfl rfl (fun w9 hw => by obtain rfl := hw; exact ⟨rfl, Nat.le_of_ble_eq_true rfl⟩) 0 4 rfl rfl rfl hl.1 rfl (Nat.le_of_ble_eq_true rfl) d_Ex_add_106 ⟨Nat.zero_le _, Nat.zero_le _⟩ (fun w1 ws1 H locs e9 hw hP hD hS => ?_)
        obtain rfl := hw
        have e9 : ws1 = [(a, .inr (4, [.ref ad, .long (lI mt), .int (iI ee)])), (ad, eJ aC 112 (updI (updI g (((ex + 1539) / 27) + t) (g (((ex + 1539) / 27) + t) + (pt % 134217728))) ((((ex + 1539) / 27) + t) + 1) ((updI g (((ex + 1539) / 27) + t) (g (((ex + 1539) / 27) + t) + (pt % 134217728))) ((((ex + 1539) / 27) + t) + 1) + (pt / 134217728)))), (b, .inr (3, [.ref bd, .int (iI ex), .int (iI 0)])), (bd, eJ aC 6 pd)] := e9
        subst e9
        refine lv_iinc (v := iI (t + 1)) (lv' := [(5, .int (iI (t + 1))), (10, .long (lI (pt / 134217728))), (8, .long (lI (pt % 134217728))), (6, .long (lI pt)), (4, .int (iI ((ex + 1539) % 27))), (3, .int (iI ((ex + 1539) / 27))), (0, .ref a), (1, .ref b)]) hx hb d_Ex_add_109 hl (k := 3) rfl (iI_add _ _) (by decide) rfl (fun ls hl => ?_)
        refine lv_goto (tgt := 27) hx hb d_Ex_add_112 (by decide) ?_
        exact ih (t + 1) (updI (updI g (((ex + 1539) / 27) + t) (g (((ex + 1539) / 27) + t) + (pt % 134217728))) ((((ex + 1539) / 27) + t) + 1) ((updI g (((ex + 1539) / 27) + t) (g (((ex + 1539) / 27) + t) + (pt % 134217728))) ((((ex + 1539) / 27) + t) + 1) + (pt / 134217728))) _ _ ls (by omega) (ex_loop (sg := 1) (sh := (ex + 1539) % 27) (at' := (ex + 1539) / 27) (by omega) (by omega) (by omega) (by omega) (by omega) hsum hpt (by omega) (by omega)) (by rw [← Int.add_assoc]; exact ex_bd (by omega) (by omega) (by omega) hgb) (by omega) hP hD hS (lv_sub hl [0, 4, 5, 6, 7] rfl)
  exact L27 _ 0 f _ _ ls (by omega) (by simp [dg]) (fun j h1 h2 => by omega) (n_lt _) hP hD hS (lv_sub hl [0, 1, 2, 4, 5] rfl)
set_option maxHeartbeats 4000000 in
set_option maxRecDepth 100000 in
theorem c_Ex_add_1 (l : Launch) (D : va_G) (aC : Nat → ClassId) (a ad : Nat) (f : Int → Int) (mt ee : Int) (b bd : Nat) (pd : Int → Int) (ex n : Int) (hp : nrm 27 pd 6) (hex : 0 ≤ ex + 1539 ∧ ex + 1539 ≤ 2861) (hbd : Bd n f) : CT l D aC y_Ex_add (rd 1 23) [.ref a, .ref b] [(a, .inr (4, [.ref ad, .long (lI mt), .int (iI ee)])), (ad, eJ aC 112 f), (b, .inr (3, [.ref bd, .int (iI ex), .int (iI 1)])), (bd, eJ aC 6 pd)] (fun v w => v = none ∧ ∃ g : Int → Int, w = [(a, .inr (4, [.ref ad, .long (lI mt), .int (iI ee)])), (ad, eJ aC 112 g), (b, .inr (3, [.ref bd, .int (iI ex), .int (iI 1)])), (bd, eJ aC 6 pd)] ∧ dg 27 g 112 = dg 27 f 112 + (-1) * dg 27 pd 6 * 2 ^ (ex + 1539).toNat ∧ Bd (n + 1) g) := by
  refine CT.of (cc := b_Ex_add) (maxL := 12) (ret := none) (by decide +kernel) k_Ex_add (Nat.le_of_ble_eq_true rfl) ?_
  intro p e s m below meth c Q S hr hlocks hQ hK hN hP hD hS ls hl
  obtain ⟨hx, hb, hml, hown, hts⟩ := id S
  have hl : lv_has ls 12 [(0, .ref a), (1, .ref b)] := hl
  refine lv_aload_n hx hb d_Ex_add_0 rfl (lv_at hl 1 rfl) ?_
  refine va_getN (D := D) (ci := 3) (v := .int (iI ex)) (C := R_Pr) (T := F_Pr) (N := 3) hx hb hts i_Pr hown hK hP 2 rfl rfl 1 (by decide) (va_Nw.use rfl (hN _ wf_Ex_19)) (fun _ h9 => h9) rfl d_Ex_add_1 ?_
  refine lv_sipush (v := iI 1539) hx hb d_Ex_add_4 (by decide +kernel) ?_
  refine x_iadd hx hb d_Ex_add_7 ?_
  refine lv_istore_n (lv' := [(2, .int (iI (ex + 1539))), (0, .ref a), (1, .ref b)]) hx hb d_Ex_add_8 rfl hl (by decide) rfl (fun ls hl => ?_)
  refine lv_iload_n hx hb d_Ex_add_9 rfl (lv_at hl 0 rfl) ?_
  refine lv_bipush (v := iI 27) hx hb d_Ex_add_10 (by decide +kernel) ?_
  refine y_callS1 (V := .int (iI ((ex + 1539) / 27))) S (c_floorDiv l D aC (ex + 1539) (by omega)) t_Ex_25 (rm_ok (by decide) (by decide)) hK hN hP [] rfl rfl hl.1 rfl (Nat.le_of_ble_eq_true rfl) d_Ex_add_12 ⟨Nat.zero_le _, Nat.zero_le _⟩ ?_
  refine lv_istore_n (lv' := [(3, .int (iI ((ex + 1539) / 27))), (2, .int (iI (ex + 1539))), (0, .ref a), (1, .ref b)]) hx hb d_Ex_add_15 rfl hl (by decide) rfl (fun ls hl => ?_)
  refine lv_iload_n hx hb d_Ex_add_16 rfl (lv_at hl 1 rfl) ?_
  refine lv_bipush (v := iI 27) hx hb d_Ex_add_17 (by decide +kernel) ?_
  refine y_callS1 (V := .int (iI ((ex + 1539) % 27))) S (c_floorMod l D aC (ex + 1539) (by omega)) t_Ex_31 (rm_ok (by decide) (by decide)) hK hN hP [] rfl rfl hl.1 rfl (Nat.le_of_ble_eq_true rfl) d_Ex_add_19 ⟨Nat.zero_le _, Nat.zero_le _⟩ ?_
  refine lv_istore (lv' := [(4, .int (iI ((ex + 1539) % 27))), (3, .int (iI ((ex + 1539) / 27))), (2, .int (iI (ex + 1539))), (0, .ref a), (1, .ref b)]) hx hb d_Ex_add_22 hl (by decide) rfl (fun ls hl => ?_)
  refine lv_iconst (v := iI 0) hx hb d_Ex_add_24 rfl ?_
  refine lv_istore (lv' := [(5, .int (iI 0)), (4, .int (iI ((ex + 1539) % 27))), (3, .int (iI ((ex + 1539) / 27))), (2, .int (iI (ex + 1539))), (0, .ref a), (1, .ref b)]) hx hb d_Ex_add_25 hl (by decide) rfl (fun ls hl => ?_)
  have L27 : ∀ (nn : Nat) (t : Int) (g : Int → Int) (H : Heap) (locs : List Loc) (ls : Array Slot), (0 ≤ t ∧ t ≤ 6) → (dg 27 g 112 = dg 27 f 112 + (-1) * dg 27 pd t.toNat * 2 ^ (ex + 1539).toNat) → (∀ j : Int, 0 ≤ j → j < 112 → (j < (ex + 1539) / 27 + t → -268435454 ≤ g j - f j ∧ g j - f j ≤ 268435454) ∧ (j = (ex + 1539) / 27 + t → -134217727 ≤ g j - f j ∧ g j - f j ≤ 134217727) ∧ ((ex + 1539) / 27 + t < j → g j = f j)) → 6 - t < (nn : Int) → va_P D CL [(a, .inr (4, [.ref ad, .long (lI mt), .int (iI ee)])), (ad, eJ aC 112 g), (b, .inr (3, [.ref bd, .int (iI ex), .int (iI 1)])), (bd, eJ aC 6 pd)] H → va_D (aW [(a, .inr (4, [.ref ad, .long (lI mt), .int (iI ee)])), (ad, eJ aC 112 f), (b, .inr (3, [.ref bd, .int (iI ex), .int (iI 1)])), (bd, eJ aC 6 pd)]) [(a, .inr (4, [.ref ad, .long (lI mt), .int (iI ee)])), (ad, eJ aC 112 g), (b, .inr (3, [.ref bd, .int (iI ex), .int (iI 1)])), (bd, eJ aC 6 pd)] → va_S (aW [(a, .inr (4, [.ref ad, .long (lI mt), .int (iI ee)])), (ad, eJ aC 112 f), (b, .inr (3, [.ref bd, .int (iI ex), .int (iI 1)])), (bd, eJ aC 6 pd)]) s.heap H locs → lv_has ls 12 [(5, .int (iI t)), (4, .int (iI ((ex + 1539) % 27))), (3, .int (iI ((ex + 1539) / 27))), (0, .ref a), (1, .ref b)] → W p l e (rd 1 23) s m ([.ref a, .ref b]).toArray below meth c H locs 0 0 Q (F0 m 27 ls []) := by
    intro nn
    induction nn with
    | zero => intro t g H locs ls ht hsum hgb hnn; exact absurd hnn (by omega)
    | succ nn ih =>
      intro t g H locs ls ht hsum hgb hnn hP hD hS hl
      refine lv_iload hx hb d_Ex_add_27 (lv_at hl 0 rfl) ?_
      refine lv_bipush (v := iI 6) hx hb d_Ex_add_29 (by decide +kernel) ?_
      refine x_icmp_ge (tgt := 115) hx hb d_Ex_add_31 (by decide) (by omega) (by omega) (fun c_31 => ?_) (fun c_31 => ?_)
      · exact x_vret hx hb hr hlocks hQ (⟨rfl, g, rfl, by rw [hsum, show t = 6 by omega]; rfl, ex_bd_end hbd hgb⟩) rfl hP hS d_Ex_add_115
      · refine lv_aload_n hx hb d_Ex_add_34 rfl (lv_at hl 4 rfl) ?_
        refine va_getN (D := D) (ci := 3) (v := .ref bd) (C := R_Pr) (T := F_Pr) (N := 3) hx hb hts i_Pr hown hK hP 2 rfl rfl 0 (by decide) (va_Nw.use rfl (hN _ wf_Ex_34)) (fun _ h9 => h9) rfl d_Ex_add_35 ?_
        refine lv_iload hx hb d_Ex_add_38 (lv_at hl 0 rfl) ?_
        refine x_lald hx hb hK hP 3 rfl (by omega) (by decide) d_Ex_add_40 ?_
        refine lv_iload hx hb d_Ex_add_41 (lv_at hl 1 rfl) ?_
        refine x_lshl hx hb d_Ex_add_43 (by omega) ?_
        obtain ⟨pt, hpt⟩ : ∃ z : Int, (pd t) * 2 ^ ((ex + 1539) % 27).toNat = z := ⟨_, rfl⟩
        refine x_topl _ pt hpt ?_
        have hptr : 0 ≤ pt ∧ pt < 9007199254740992 := by rw [← hpt]; exact pt_rng (by have := hp t (by omega) (by omega); rw [p27] at this; exact this) (by omega)
        refine lv_lstore (lv' := [(6, .long (lI pt)), (5, .int (iI t)), (4, .int (iI ((ex + 1539) % 27))), (3, .int (iI ((ex + 1539) / 27))), (0, .ref a), (1, .ref b)]) hx hb d_Ex_add_44 hl (by decide) rfl (fun ls hl => ?_)
        refine lv_lload hx hb d_Ex_add_46 (lv_at hl 0 rfl) ?_
        refine x_ldc2 hx hb 134217727 (by decide +kernel) hown (hts _ wk_Ex_35) d_Ex_add_48 ?_
        refine x_land (v := (pt % 134217728)) hx hb d_Ex_add_51 (lI_m27 _) ?_
        refine lv_lstore (lv' := [(8, .long (lI (pt % 134217728))), (6, .long (lI pt)), (5, .int (iI t)), (4, .int (iI ((ex + 1539) % 27))), (3, .int (iI ((ex + 1539) / 27))), (0, .ref a), (1, .ref b)]) hx hb d_Ex_add_52 hl (by decide) rfl (fun ls hl => ?_)
        refine lv_lload hx hb d_Ex_add_54 (lv_at hl 1 rfl) ?_
        refine lv_bipush (v := iI 27) hx hb d_Ex_add_56 (by decide +kernel) ?_
        refine x_lushr hx hb d_Ex_add_58 (by omega) (by omega) ?_
        refine x_topl _ (pt / 134217728) rfl ?_
        refine lv_lstore (lv' := [(10, .long (lI (pt / 134217728))), (8, .long (lI (pt % 134217728))), (6, .long (lI pt)), (5, .int (iI t)), (4, .int (iI ((ex + 1539) % 27))), (3, .int (iI ((ex + 1539) / 27))), (0, .ref a), (1, .ref b)]) hx hb d_Ex_add_59 hl (by decide) rfl (fun ls hl => ?_)
        refine lv_aload_n hx hb d_Ex_add_61 rfl (lv_at hl 6 rfl) ?_
        refine lv_iload_n hx hb d_Ex_add_62 rfl (lv_at hl 5 rfl) ?_
        refine lv_iload hx hb d_Ex_add_63 (lv_at hl 3 rfl) ?_
        refine x_iadd hx hb d_Ex_add_65 ?_
        refine lv_aload_n hx hb d_Ex_add_66 rfl (lv_at hl 7 rfl) ?_
        refine va_getN (D := D) (ci := 3) (v := .int (iI 1)) (C := R_Pr) (T := F_Pr) (N := 3) hx hb hts i_Pr hown hK hP 2 rfl rfl 2 (by decide) (va_Nw.use rfl (hN _ wf_Ex_37)) (fun _ h9 => h9) rfl d_Ex_add_67 ?_
        refine x_if_eq (tgt := 79) hx hb d_Ex_add_70 (by decide) (by decide) (fun c_70 => (by exfalso; omega)) (fun c_70 => ?_)
        refine lv_lload hx hb d_Ex_add_73 (lv_at hl 1 rfl) ?_
        refine x_lneg hx hb d_Ex_add_75 ?_
        refine lv_goto (tgt := 81) hx hb d_Ex_add_76 (by decide) ?_
        refine x_callV0F S (c_Ex_addAt l D aC a ad g mt ee (((ex + 1539) / 27) + t) (-(pt % 134217728)) (by omega)) t_Ex_41 (rm_ok (by decide) (by decide)) hK hN hP hD hS [0, 1] [] rfl rfl (fun w9 hw => by obtain rfl := hw; exact ⟨rfl, Nat.le_of_ble_eq_true rfl⟩) 0 4 rfl rfl rfl hl.1 rfl (Nat.le_of_ble_eq_true rfl) d_Ex_add_81 ⟨Nat.zero_le _, Nat.zero_le _⟩ (fun w1 ws1 H locs e9 hw hP hD hS => ?_)
        obtain rfl := hw
        have e9 : ws1 = [(a, .inr (4, [.ref ad, .long (lI mt), .int (iI ee)])), (ad, eJ aC 112 (updI g (((ex + 1539) / 27) + t) (g (((ex + 1539) / 27) + t) + (-(pt % 134217728))))), (b, .inr (3, [.ref bd, .int (iI ex), .int (iI 1)])), (bd, eJ aC 6 pd)] := e9
        subst e9
        refine lv_aload_n hx hb d_Ex_add_84 rfl (lv_at hl 6 rfl) ?_
        refine lv_iload_n hx hb d_Ex_add_85 rfl (lv_at hl 5 rfl) ?_
        refine lv_iload hx hb d_Ex_add_86 (lv_at hl 3 rfl) ?_
        refine x_iadd hx hb d_Ex_add_88 ?_
        refine lv_iconst (v := iI 1) hx hb d_Ex_add_89 rfl ?_
        refine x_iadd hx hb d_Ex_add_90 ?_
        refine lv_aload_n hx hb d_Ex_add_91 rfl (lv_at hl 7 rfl) ?_
        refine va_getN (D := D) (ci := 3) (v := .int (iI 1)) (C := R_Pr) (T := F_Pr) (N := 3) hx hb hts i_Pr hown hK hP 2 rfl rfl 2 (by decide) (va_Nw.use rfl (hN _ wf_Ex_37)) (fun _ h9 => h9) rfl d_Ex_add_92 ?_
        refine x_if_eq (tgt := 104) hx hb d_Ex_add_95 (by decide) (by decide) (fun c_95 => (by exfalso; omega)) (fun c_95 => ?_)
        refine lv_lload hx hb d_Ex_add_98 (lv_at hl 0 rfl) ?_
        refine x_lneg hx hb d_Ex_add_100 ?_
        refine lv_goto (tgt := 106) hx hb d_Ex_add_101 (by decide) ?_
        refine x_callV0F S (c_Ex_addAt l D aC a ad (updI g (((ex + 1539) / 27) + t) (g (((ex + 1539) / 27) + t) + (-(pt % 134217728)))) mt ee ((((ex + 1539) / 27) + t) + 1) (-(pt / 134217728)) (by omega)) t_Ex_41 (rm_ok (by decide) (by decide)) hK hN hP hD hS [0, 1] [] rfl rfl (fun w9 hw => by obtain rfl := hw; exact ⟨rfl, Nat.le_of_ble_eq_true rfl⟩) 0 4 rfl rfl rfl hl.1 rfl (Nat.le_of_ble_eq_true rfl) d_Ex_add_106 ⟨Nat.zero_le _, Nat.zero_le _⟩ (fun w1 ws1 H locs e9 hw hP hD hS => ?_)
        obtain rfl := hw
        have e9 : ws1 = [(a, .inr (4, [.ref ad, .long (lI mt), .int (iI ee)])), (ad, eJ aC 112 (updI (updI g (((ex + 1539) / 27) + t) (g (((ex + 1539) / 27) + t) + (-(pt % 134217728)))) ((((ex + 1539) / 27) + t) + 1) ((updI g (((ex + 1539) / 27) + t) (g (((ex + 1539) / 27) + t) + (-(pt % 134217728)))) ((((ex + 1539) / 27) + t) + 1) + (-(pt / 134217728))))), (b, .inr (3, [.ref bd, .int (iI ex), .int (iI 1)])), (bd, eJ aC 6 pd)] := e9
        subst e9
        refine lv_iinc (v := iI (t + 1)) (lv' := [(5, .int (iI (t + 1))), (10, .long (lI (pt / 134217728))), (8, .long (lI (pt % 134217728))), (6, .long (lI pt)), (4, .int (iI ((ex + 1539) % 27))), (3, .int (iI ((ex + 1539) / 27))), (0, .ref a), (1, .ref b)]) hx hb d_Ex_add_109 hl (k := 3) rfl (iI_add _ _) (by decide) rfl (fun ls hl => ?_)
        refine lv_goto (tgt := 27) hx hb d_Ex_add_112 (by decide) ?_
        exact ih (t + 1) (updI (updI g (((ex + 1539) / 27) + t) (g (((ex + 1539) / 27) + t) + (-(pt % 134217728)))) ((((ex + 1539) / 27) + t) + 1) ((updI g (((ex + 1539) / 27) + t) (g (((ex + 1539) / 27) + t) + (-(pt % 134217728)))) ((((ex + 1539) / 27) + t) + 1) + (-(pt / 134217728)))) _ _ ls (by omega) (ex_loop (sg := -1) (sh := (ex + 1539) % 27) (at' := (ex + 1539) / 27) (by omega) (by omega) (by omega) (by omega) (by omega) hsum hpt (by omega) (by omega)) (by rw [← Int.add_assoc]; exact ex_bd (by omega) (by omega) (by omega) hgb) (by omega) hP hD hS (lv_sub hl [0, 4, 5, 6, 7] rfl)
  exact L27 _ 0 f _ _ ls (by omega) (by simp [dg]) (fun j h1 h2 => by omega) (n_lt _) hP hD hS (lv_sub hl [0, 1, 2, 4, 5] rfl)
theorem c_Ex_add (l : Launch) (D : va_G) (aC : Nat → ClassId) (a ad : Nat) (f : Int → Int) (mt ee : Int) (b bd : Nat) (pd : Int → Int) (ex ng Z n : Int) (hp : PrS pd ng Z) (hex : 0 ≤ ex + 1539 ∧ ex + 1539 ≤ 2861) (hbd : Bd n f) : CT l D aC y_Ex_add (rd 1 23) [.ref a, .ref b] [(a, .inr (4, [.ref ad, .long (lI mt), .int (iI ee)])), (ad, eJ aC 112 f), (b, .inr (3, [.ref bd, .int (iI ex), .int (iI ng)])), (bd, eJ aC 6 pd)] (fun v w => v = none ∧ ∃ g : Int → Int, w = [(a, .inr (4, [.ref ad, .long (lI mt), .int (iI ee)])), (ad, eJ aC 112 g), (b, .inr (3, [.ref bd, .int (iI ex), .int (iI ng)])), (bd, eJ aC 6 pd)] ∧ dg 27 g 112 = dg 27 f 112 + Z * 2 ^ (ex + 1539).toNat ∧ Bd (n + 1) g) := by
  obtain ⟨h1, h2, h3⟩ := hp
  subst h3
  rcases h1 with rfl | rfl
  · exact c_Ex_add_0 l D aC a ad f mt ee b bd pd ex n h2 hex hbd
  · exact c_Ex_add_1 l D aC a ad f mt ee b bd pd ex n h2 hex hbd
set_option maxHeartbeats 4000000 in
set_option maxRecDepth 100000 in
theorem c_Ex_settle (l : Launch) (D : va_G) (aC : Nat → ClassId) (a ad : Nat) (f : Int → Int) (mt ee : Int) (n : Int) (hn : 0 ≤ n ∧ n ≤ 1048576) (hbd : Bd n f) : CT l D aC y_Ex_settle (rd 0 0) [.ref a] [(a, .inr (4, [.ref ad, .long (lI mt), .int (iI ee)])), (ad, eJ aC 112 f)] (fun v w => v = none ∧ ∃ g : Int → Int, w = [(a, .inr (4, [.ref ad, .long (lI mt), .int (iI ee)])), (ad, eJ aC 112 g)] ∧ Nr g (dg 27 f 112) ∧ Bd (n + 1) g) := by
  refine CT.of (cc := b_Ex_settle) (maxL := 6) (ret := none) (by decide +kernel) k_Ex_settle (Nat.le_of_ble_eq_true rfl) ?_
  intro p e s m below meth c Q S hr hlocks hQ hK hN hP hD hS ls hl
  obtain ⟨hx, hb, hml, hown, hts⟩ := id S
  have hl : lv_has ls 6 [(0, .ref a)] := hl
  refine lv_lconst (v := lI 0) hx hb d_Ex_settle_0 (by decide +kernel) ?_
  refine lv_lstore_n (lv' := [(1, .long (lI 0)), (0, .ref a)]) hx hb d_Ex_settle_1 rfl hl (by decide) rfl (fun ls hl => ?_)
  refine lv_iconst (v := iI 0) hx hb d_Ex_settle_2 rfl ?_
  refine lv_istore_n (lv' := [(3, .int (iI 0)), (1, .long (lI 0)), (0, .ref a)]) hx hb d_Ex_settle_3 rfl hl (by decide) rfl (fun ls hl => ?_)
  have L4 : ∀ (nn : Nat) (t : Int) (cy : Int) (g : Int → Int) (H : Heap) (locs : List Loc) (ls : Array Slot), (0 ≤ t ∧ t ≤ 111) → (-(2 * n + 2) ≤ cy ∧ cy ≤ 2 * n + 2) → (∀ j : Int, 0 ≤ j → j < t → 0 ≤ g j ∧ g j < 134217728) → (∀ j : Int, t ≤ j → j < 112 → g j = f j) → (dg 27 g t.toNat + cy * 2 ^ (27 * t.toNat) = dg 27 f t.toNat) → 111 - t < (nn : Int) → va_P D CL [(a, .inr (4, [.ref ad, .long (lI mt), .int (iI ee)])), (ad, eJ aC 112 g)] H → va_D (aW [(a, .inr (4, [.ref ad, .long (lI mt), .int (iI ee)])), (ad, eJ aC 112 f)]) [(a, .inr (4, [.ref ad, .long (lI mt), .int (iI ee)])), (ad, eJ aC 112 g)] → va_S (aW [(a, .inr (4, [.ref ad, .long (lI mt), .int (iI ee)])), (ad, eJ aC 112 f)]) s.heap H locs → lv_has ls 6 [(3, .int (iI t)), (1, .long (lI cy)), (0, .ref a)] → W p l e (rd 0 0) s m ([.ref a]).toArray below meth c H locs 0 0 Q (F0 m 4 ls []) := by
    intro nn
    induction nn with
    | zero => intro t cy g H locs ls ht hcy hg1 hg2 hsum hnn; exact absurd hnn (by omega)
    | succ nn ih =>
      intro t cy g H locs ls ht hcy hg1 hg2 hsum hnn hP hD hS hl
      refine lv_iload_n hx hb d_Ex_settle_4 rfl (lv_at hl 0 rfl) ?_
      refine lv_bipush (v := iI 111) hx hb d_Ex_settle_5 (by decide +kernel) ?_
      refine x_icmp_ge (tgt := 44) hx hb d_Ex_settle_7 (by decide) (by omega) (by omega) (fun c_7 => ?_) (fun c_7 => ?_)
      · refine lv_aload_n hx hb d_Ex_settle_44 rfl (lv_at hl 2 rfl) ?_
        refine va_get (D := D) (ci := 4) (v := .ref ad) (C := R_Ex) (T := F_Ex) (N := 3) hx hb hts i_Ex hown hK hP 0 rfl rfl 0 (by decide) (hts _ wf_Ex_9) (fun _ h9 => h9) rfl d_Ex_settle_45 ?_
        refine lv_bipush (v := iI 111) hx hb d_Ex_settle_48 (by decide +kernel) ?_
        refine lv_dup2_11 hx hb d_Ex_settle_50 rfl rfl ?_
        refine x_lald hx hb hK hP 1 rfl (by omega) (by decide) d_Ex_settle_51 ?_
        refine lv_lload_n hx hb d_Ex_settle_52 rfl (lv_at hl 1 rfl) ?_
        refine x_ladd hx hb d_Ex_settle_53 ?_
        refine x_last hx hb hK hP hD hS 1 rfl (by omega) (by decide) d_Ex_settle_54 (fun H locs hP hD hS => ?_)
        have hP : va_P D CL [(a, .inr (4, [.ref ad, .long (lI mt), .int (iI ee)])), (ad, eJ aC 112 (updI g 111 ((g 111) + cy)))] H := hP
        have hD : va_D (aW [(a, .inr (4, [.ref ad, .long (lI mt), .int (iI ee)])), (ad, eJ aC 112 f)]) [(a, .inr (4, [.ref ad, .long (lI mt), .int (iI ee)])), (ad, eJ aC 112 (updI g 111 ((g 111) + cy)))] := hD
        exact x_vret hx hb hr hlocks hQ (⟨rfl, _, rfl, se_end (by omega) hn hbd hcy hg1 hg2 hsum⟩) rfl hP hS d_Ex_settle_55
      · refine lv_aload_n hx hb d_Ex_settle_10 rfl (lv_at hl 2 rfl) ?_
        refine va_get (D := D) (ci := 4) (v := .ref ad) (C := R_Ex) (T := F_Ex) (N := 3) hx hb hts i_Ex hown hK hP 0 rfl rfl 0 (by decide) (hts _ wf_Ex_9) (fun _ h9 => h9) rfl d_Ex_settle_11 ?_
        refine lv_iload_n hx hb d_Ex_settle_14 rfl (lv_at hl 0 rfl) ?_
        refine x_lald hx hb hK hP 1 rfl (by omega) (by decide) d_Ex_settle_15 ?_
        refine lv_lload_n hx hb d_Ex_settle_16 rfl (lv_at hl 1 rfl) ?_
        refine x_ladd hx hb d_Ex_settle_17 ?_
        obtain ⟨S2, hSd⟩ : ∃ z : Int, (g t) + cy = z := ⟨_, rfl⟩
        refine x_topl _ S2 hSd ?_
        have hft := hbd t (by omega) (by omega)
        have hgt := hg2 t (by omega) (by omega)
        have hS2 : -(n * 268435456 + 2 * n + 2) ≤ S2 ∧ S2 ≤ n * 268435456 + 2 * n + 2 := by omega
        refine lv_lstore (lv' := [(4, .long (lI S2)), (3, .int (iI t)), (1, .long (lI cy)), (0, .ref a)]) hx hb d_Ex_settle_18 hl (by decide) rfl (fun ls hl => ?_)
        refine lv_aload_n hx hb d_Ex_settle_20 rfl (lv_at hl 3 rfl) ?_
        refine va_get (D := D) (ci := 4) (v := .ref ad) (C := R_Ex) (T := F_Ex) (N := 3) hx hb hts i_Ex hown hK hP 0 rfl rfl 0 (by decide) (hts _ wf_Ex_9) (fun _ h9 => h9) rfl d_Ex_settle_21 ?_
        refine lv_iload_n hx hb d_Ex_settle_24 rfl (lv_at hl 1 rfl) ?_
        refine lv_lload hx hb d_Ex_settle_25 (lv_at hl 0 rfl) ?_
        refine x_ldc2 hx hb 134217727 (by decide +kernel) hown (hts _ wk_Ex_35) d_Ex_settle_27 ?_
        refine x_land (v := (S2 % 134217728)) hx hb d_Ex_settle_30 (lI_m27 _) ?_
        refine x_last hx hb hK hP hD hS 1 rfl (by omega) (by decide) d_Ex_settle_31 (fun H locs hP hD hS => ?_)
        have hP : va_P D CL [(a, .inr (4, [.ref ad, .long (lI mt), .int (iI ee)])), (ad, eJ aC 112 (updI g t (S2 % 134217728)))] H := hP
        have hD : va_D (aW [(a, .inr (4, [.ref ad, .long (lI mt), .int (iI ee)])), (ad, eJ aC 112 f)]) [(a, .inr (4, [.ref ad, .long (lI mt), .int (iI ee)])), (ad, eJ aC 112 (updI g t (S2 % 134217728)))] := hD
        refine lv_lload hx hb d_Ex_settle_32 (lv_at hl 0 rfl) ?_
        refine lv_bipush (v := iI 27) hx hb d_Ex_settle_34 (by decide +kernel) ?_
        refine x_lshr hx hb d_Ex_settle_36 (by omega) (by omega) ?_
        refine x_topl _ (S2 / 134217728) rfl ?_
        refine lv_lstore_n (lv' := [(1, .long (lI (S2 / 134217728))), (4, .long (lI S2)), (3, .int (iI t)), (0, .ref a)]) hx hb d_Ex_settle_37 rfl hl (by decide) rfl (fun ls hl => ?_)
        refine lv_iinc (v := iI (t + 1)) (lv' := [(3, .int (iI (t + 1))), (1, .long (lI (S2 / 134217728))), (4, .long (lI S2)), (0, .ref a)]) hx hb d_Ex_settle_38 hl (k := 2) rfl (iI_add _ _) (by decide) rfl (fun ls hl => ?_)
        refine lv_goto (tgt := 4) hx hb d_Ex_settle_41 (by decide) ?_
        exact ih (t + 1) (S2 / 134217728) (updI g t (S2 % 134217728)) _ _ ls (by omega) (by omega) (fun j h1 h2 => by
          by_cases hj : j = t
          · rw [hj, updI_s]; omega
          · rw [updI_n hj]; exact hg1 j h1 (by omega)) (fun j h1 h2 => by rw [updI_n (by omega)]; exact hg2 j (by omega) h2) (se_step (by omega) (hg2 t (by omega) (by omega)) hsum hSd) (by omega) hP hD hS (lv_sub hl [0, 1, 3] rfl)
  exact L4 _ 0 0 f _ _ ls (by omega) (by omega) (fun j h1 h2 => by omega) (fun j h1 h2 => rfl) (by simp [dg]) (n_lt _) hP hD hS (lv_sub hl [0, 1, 2] rfl)
