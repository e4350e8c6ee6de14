/-- what the reference holds -/
abbrev MS : Type := Int × Int × Int × Int × Int × (Int → Int) × (Int → Int) × (Int → Int) × (Int → Int) × (Int → Int) × (Int → Int) × (Int → Int) × (Int → Int) × (Int → Int) × (Int → Int) × (Int → Int) × (Int → Int) × (Int → Int) × (Int → Int) × (Int → Int) × (Int → Int) × (Int → Int)
def MS.rw (d : MS) : Int := d.1
def MS.cn (d : MS) : Int := d.2.1
def MS.en (d : MS) : Int := d.2.2.1
def MS.pr (d : MS) : Int := d.2.2.2.1
def MS.ko (d : MS) : Int := d.2.2.2.2.1
def MS.ka (d : MS) : Int → Int := d.2.2.2.2.2.1
def MS.kc (d : MS) : Int → Int := d.2.2.2.2.2.2.1
def MS.kq (d : MS) : Int → Int := d.2.2.2.2.2.2.2.1
def MS.kl (d : MS) : Int → Int := d.2.2.2.2.2.2.2.2.1
def MS.kh (d : MS) : Int → Int := d.2.2.2.2.2.2.2.2.2.1
def MS.krl (d : MS) : Int → Int := d.2.2.2.2.2.2.2.2.2.2.1
def MS.krh (d : MS) : Int → Int := d.2.2.2.2.2.2.2.2.2.2.2.1
def MS.kx (d : MS) : Int → Int := d.2.2.2.2.2.2.2.2.2.2.2.2.1
def MS.ky (d : MS) : Int → Int := d.2.2.2.2.2.2.2.2.2.2.2.2.2.1
def MS.xb (d : MS) : Int → Int := d.2.2.2.2.2.2.2.2.2.2.2.2.2.2.1
def MS.yb (d : MS) : Int → Int := d.2.2.2.2.2.2.2.2.2.2.2.2.2.2.2.1
def MS.ai (d : MS) : Int → Int := d.2.2.2.2.2.2.2.2.2.2.2.2.2.2.2.2.1
def MS.qi (d : MS) : Int → Int := d.2.2.2.2.2.2.2.2.2.2.2.2.2.2.2.2.2.1
def MS.li (d : MS) : Int → Int := d.2.2.2.2.2.2.2.2.2.2.2.2.2.2.2.2.2.2.1
def MS.hi (d : MS) : Int → Int := d.2.2.2.2.2.2.2.2.2.2.2.2.2.2.2.2.2.2.2.1
def MS.rli (d : MS) : Int → Int := d.2.2.2.2.2.2.2.2.2.2.2.2.2.2.2.2.2.2.2.2.1
def MS.rhi (d : MS) : Int → Int := d.2.2.2.2.2.2.2.2.2.2.2.2.2.2.2.2.2.2.2.2.2
def bigM : Int := 2 ^ 7040
def big7 : Int := 2 ^ 7039
theorem bigM_7 : bigM = big7 * 2 := by unfold bigM big7; rw [show 7040 = 7039 + 1 from rfl, p2_add]; rfl
theorem big7_pos : 0 < big7 := p2_pos 7039
theorem bigM_16 : (2 : Int) ^ (16 * 440) = bigM := rfl
/-- the sum's limbs hold S, below 0 by its complement -/
def SumOk (f : Int → Int) (S : Int) : Prop := nrm 16 f 440 ∧ dg 16 f 440 = S % bigM
theorem SumOk.top {f : Int → Int} {S : Int} (h : SumOk f S) (hb : -big7 < S ∧ S < big7) : (0 ≤ S → dg 16 f 440 = S) ∧ (S < 0 → dg 16 f 440 = S + bigM) := by
  have e := bigM_7
  have hp := big7_pos
  refine ⟨fun h0 => by rw [h.2, Int.emod_eq_of_lt h0 (by omega)], fun h0 => ?_⟩
  rw [h.2, ← Int.add_emod_right, Int.emod_eq_of_lt (by omega) (by omega)]
theorem SumOk.neg {f : Int → Int} {S : Int} (h : SumOk f S) (hb : -big7 < S ∧ S < big7) : 32768 ≤ f 439 ↔ S < 0 := by
  obtain ⟨t1, t2⟩ := h.top hb
  have e := bigM_7
  have hp := big7_pos
  have e1 : dg 16 f 440 = dg 16 f 439 + f 439 * 2 ^ (16 * 439) := rfl
  obtain ⟨r1, r2⟩ := dg_range 439 (h.1.le (by decide))
  have e2 : big7 = 32768 * 2 ^ (16 * 439) := by unfold big7; rw [show 7039 = 15 + 16 * 439 from rfl, p2_add]; rfl
  have hw := p2_pos (16 * 439)
  generalize (2 : Int) ^ (16 * 439) = w at *
  constructor
  · intro q
    rcases (show S < 0 ∨ 0 ≤ S by omega) with z | z
    · exact z
    · have := t1 z
      have := Int.mul_le_mul_of_nonneg_right q (Int.le_of_lt hw)
      omega
  · intro q
    have := t2 q
    rcases (show 32768 ≤ f 439 ∨ f 439 + 1 ≤ 32768 by omega) with z | z
    · exact z
    · have := Int.mul_le_mul_of_nonneg_right z (Int.le_of_lt hw)
      rw [Int.add_mul, Int.one_mul] at this
      omega
theorem SumOk.zero {f : Int → Int} {S : Int} (h : SumOk f S) (hb : -big7 < S ∧ S < big7) (hS : 0 ≤ S) : (∀ j : Int, 0 ≤ j → j < 440 → f j = 0) ↔ S = 0 := by
  rw [← (h.top hb).1 hS]
  constructor
  · intro q; exact dg_zero 440 q
  · intro q j h1 h2
    have h0 : nrm 16 (fun _ => 0) 440 := fun j _ _ => ⟨Int.le_refl 0, p2_pos 16⟩
    exact dg_inj 440 h.1 h0 (by rw [q, dg_zero 440 (fun _ _ _ => rfl)]) j h1 h2
def fE (er z cd : Int) : Int := if z ≠ 0 ∧ er = 0 then cd else er
def ex4 (k : Int) : Int := if k = 0 then 0 else 4
theorem ex_dg {f : Int → Int} {P : Int} (hP : 0 ≤ P ∧ P < 9007199254740992) (g : Int → Int) (h0 : g 0 = P % 65536) (h1 : g 1 = P / 65536 % 65536) (h2 : g 2 = P / 65536 / 65536 % 65536) (h3 : g 3 = P / 65536 / 65536 / 65536 % 65536) : dg 16 g 4 = P ∧ ∀ j : Int, 0 ≤ j → j < 4 → 0 ≤ g j ∧ g j < 65536 := by
  refine ⟨?_, fun j a b => ?_⟩
  · show 0 + g 0 * 2 ^ (16 * 0) + g 1 * 2 ^ (16 * 1) + g 2 * 2 ^ (16 * 2) + g 3 * 2 ^ (16 * 3) = P
    have e0 : (2 : Int) ^ (16 * 0) = 1 := rfl
    have e1 : (2 : Int) ^ (16 * 1) = 65536 := rfl
    have e2 : (2 : Int) ^ (16 * 2) = 4294967296 := rfl
    have e3 : (2 : Int) ^ (16 * 3) = 281474976710656 := rfl
    rw [e0, e1, e2, e3]; omega
  · rcases (show j = 0 ∨ j = 1 ∨ j = 2 ∨ j = 3 by omega) with rfl | rfl | rfl | rfl <;> omega

set_option maxHeartbeats 4000000 in
set_option maxRecDepth 100000 in
theorem c_Mo_zero (l : Launch) (D : va_G) (aC : Nat → ClassId) (b : Nat → Nat) (M : MS) (er p2 : Int) (f : Int → Int) : CT l D aC y_Mo_zero (rd 0 0) [.ref (b 0)] [(b 16, eI aC 440 f), (b 0, .inr (6, [.int (iI er), .int (iI M.rw), .int (iI M.cn), .int (iI M.en), .int (iI M.pr), .double (dM M.ko (-3)), .ref (b 1), .ref (b 2), .ref (b 3), .ref (b 4), .ref (b 5), .ref (b 6), .ref (b 7), .ref (b 8), .ref (b 9), .ref (b 10), .ref (b 11), .ref (b 12), .ref (b 13), .ref (b 14), .ref (b 15), .int (iI p2), .ref (b 16), .ref (b 17), .ref (b 18), .ref (b 19), .ref (b 20), .ref (b 21), .ref (b 22)]))] (fun v w => v = none ∧ ∃ g : Int → Int, w = [(b 16, eI aC 440 g), (b 0, .inr (6, [.int (iI er), .int (iI M.rw), .int (iI M.cn), .int (iI M.en), .int (iI M.pr), .double (dM M.ko (-3)), .ref (b 1), .ref (b 2), .ref (b 3), .ref (b 4), .ref (b 5), .ref (b 6), .ref (b 7), .ref (b 8), .ref (b 9), .ref (b 10), .ref (b 11), .ref (b 12), .ref (b 13), .ref (b 14), .ref (b 15), .int (iI p2), .ref (b 16), .ref (b 17), .ref (b 18), .ref (b 19), .ref (b 20), .ref (b 21), .ref (b 22)]))] ∧ SumOk g 0) := by
  refine CT.of (cc := b_Mo_zero) (maxL := 2) (ret := none) (by decide +kernel) k_Mo_zero (Nat.le_of_ble_eq_true rfl) ?_
  intro p e s m below meth c Q S hr hlocks hQ hK hN hP hD hS ls hl
  obtain ⟨hx, hb, hml, hown, hts⟩ := id S
  have hl : lv_has ls 2 [(0, .ref (b 0))] := hl
  refine lv_iconst (v := iI 0) hx hb d_Mo_zero_0 rfl ?_
  refine lv_istore_n (lv' := [(1, .int (iI 0)), (0, .ref (b 0))]) hx hb d_Mo_zero_1 rfl hl (by decide) rfl (fun ls hl => ?_)
  have L2 : ∀ (nn : Nat) (t : Int) (g : Int → Int) (H : Heap) (locs : List Loc) (ls : Array Slot), (0 ≤ t ∧ t ≤ 440) → (∀ j : Int, 0 ≤ j → j < t → g j = 0) → 440 - t < (nn : Int) → va_P D CL [(b 16, eI aC 440 g), (b 0, .inr (6, [.int (iI er), .int (iI M.rw), .int (iI M.cn), .int (iI M.en), .int (iI M.pr), .double (dM M.ko (-3)), .ref (b 1), .ref (b 2), .ref (b 3), .ref (b 4), .ref (b 5), .ref (b 6), .ref (b 7), .ref (b 8), .ref (b 9), .ref (b 10), .ref (b 11), .ref (b 12), .ref (b 13), .ref (b 14), .ref (b 15), .int (iI p2), .ref (b 16), .ref (b 17), .ref (b 18), .ref (b 19), .ref (b 20), .ref (b 21), .ref (b 22)]))] H → va_D (aW [(b 16, eI aC 440 f), (b 0, .inr (6, [.int (iI er), .int (iI M.rw), .int (iI M.cn), .int (iI M.en), .int (iI M.pr), .double (dM M.ko (-3)), .ref (b 1), .ref (b 2), .ref (b 3), .ref (b 4), .ref (b 5), .ref (b 6), .ref (b 7), .ref (b 8), .ref (b 9), .ref (b 10), .ref (b 11), .ref (b 12), .ref (b 13), .ref (b 14), .ref (b 15), .int (iI p2), .ref (b 16), .ref (b 17), .ref (b 18), .ref (b 19), .ref (b 20), .ref (b 21), .ref (b 22)]))]) [(b 16, eI aC 440 g), (b 0, .inr (6, [.int (iI er), .int (iI M.rw), .int (iI M.cn), .int (iI M.en), .int (iI M.pr), .double (dM M.ko (-3)), .ref (b 1), .ref (b 2), .ref (b 3), .ref (b 4), .ref (b 5), .ref (b 6), .ref (b 7), .ref (b 8), .ref (b 9), .ref (b 10), .ref (b 11), .ref (b 12), .ref (b 13), .ref (b 14), .ref (b 15), .int (iI p2), .ref (b 16), .ref (b 17), .ref (b 18), .ref (b 19), .ref (b 20), .ref (b 21), .ref (b 22)]))] → va_S (aW [(b 16, eI aC 440 f), (b 0, .inr (6, [.int (iI er), .int (iI M.rw), .int (iI M.cn), .int (iI M.en), .int (iI M.pr), .double (dM M.ko (-3)), .ref (b 1), .ref (b 2), .ref (b 3), .ref (b 4), .ref (b 5), .ref (b 6), .ref (b 7), .ref (b 8), .ref (b 9), .ref (b 10), .ref (b 11), .ref (b 12), .ref (b 13), .ref (b 14), .ref (b 15), .int (iI p2), .ref (b 16), .ref (b 17), .ref (b 18), .ref (b 19), .ref (b 20), .ref (b 21), .ref (b 22)]))]) s.heap H locs → lv_has ls 2 [(1, .int (iI t)), (0, .ref (b 0))] → W p l e (rd 0 0) s m ([.ref (b 0)]).toArray below meth c H locs 0 0 Q (F0 m 2 ls []) := by
    intro nn
    induction nn with
    | zero => intro t g H locs ls ht hg hnn; exact absurd hnn (by omega)
    | succ nn ih =>
      intro t g H locs ls ht hg hnn hP hD hS hl
      refine lv_iload_n hx hb d_Mo_zero_2 rfl (lv_at hl 0 rfl) ?_
      refine lv_sipush (v := iI 440) hx hb d_Mo_zero_3 (by decide +kernel) ?_
      refine x_icmp_ge (tgt := 22) hx hb d_Mo_zero_6 (by decide) (by omega) (by omega) (fun c_6 => ?_) (fun c_6 => ?_)
      · exact x_vret hx hb hr hlocks hQ (⟨rfl, g, rfl, fun j h1 h2 => by rw [hg j h1 (by omega)]; exact ⟨Int.le_refl 0, p2_pos 16⟩, by rw [dg_zero (b := 16) (f := g) 440 (fun j h1 h2 => hg j h1 (by omega))]; exact (Int.zero_emod _).symm⟩) rfl hP hS d_Mo_zero_22
      · refine lv_aload_n hx hb d_Mo_zero_9 rfl (lv_at hl 1 rfl) ?_
        refine va_get (D := D) (ci := 6) (v := .ref (b 16)) (C := R_Mo) (T := F_Mo) (N := 29) hx hb hts i_Mo hown hK hP 1 rfl rfl 22 (by decide) (hts _ wf_Mo_56) (fun _ h9 => h9) rfl d_Mo_zero_10 ?_
        refine lv_iload_n hx hb d_Mo_zero_13 rfl (lv_at hl 0 rfl) ?_
        refine lv_iconst (v := iI 0) hx hb d_Mo_zero_14 rfl ?_
        refine x_iast hx hb hK hP hD hS 0 rfl (by omega) (by decide) d_Mo_zero_15 (fun H locs hP hD hS => ?_)
        have hP : va_P D CL [(b 16, eI aC 440 (updI g t 0)), (b 0, .inr (6, [.int (iI er), .int (iI M.rw), .int (iI M.cn), .int (iI M.en), .int (iI M.pr), .double (dM M.ko (-3)), .ref (b 1), .ref (b 2), .ref (b 3), .ref (b 4), .ref (b 5), .ref (b 6), .ref (b 7), .ref (b 8), .ref (b 9), .ref (b 10), .ref (b 11), .ref (b 12), .ref (b 13), .ref (b 14), .ref (b 15), .int (iI p2), .ref (b 16), .ref (b 17), .ref (b 18), .ref (b 19), .ref (b 20), .ref (b 21), .ref (b 22)]))] H := hP
        have hD : va_D (aW [(b 16, eI aC 440 f), (b 0, .inr (6, [.int (iI er), .int (iI M.rw), .int (iI M.cn), .int (iI M.en), .int (iI M.pr), .double (dM M.ko (-3)), .ref (b 1), .ref (b 2), .ref (b 3), .ref (b 4), .ref (b 5), .ref (b 6), .ref (b 7), .ref (b 8), .ref (b 9), .ref (b 10), .ref (b 11), .ref (b 12), .ref (b 13), .ref (b 14), .ref (b 15), .int (iI p2), .ref (b 16), .ref (b 17), .ref (b 18), .ref (b 19), .ref (b 20), .ref (b 21), .ref (b 22)]))]) [(b 16, eI aC 440 (updI g t 0)), (b 0, .inr (6, [.int (iI er), .int (iI M.rw), .int (iI M.cn), .int (iI M.en), .int (iI M.pr), .double (dM M.ko (-3)), .ref (b 1), .ref (b 2), .ref (b 3), .ref (b 4), .ref (b 5), .ref (b 6), .ref (b 7), .ref (b 8), .ref (b 9), .ref (b 10), .ref (b 11), .ref (b 12), .ref (b 13), .ref (b 14), .ref (b 15), .int (iI p2), .ref (b 16), .ref (b 17), .ref (b 18), .ref (b 19), .ref (b 20), .ref (b 21), .ref (b 22)]))] := hD
        refine lv_iinc (v := iI (t + 1)) (lv' := [(1, .int (iI (t + 1))), (0, .ref (b 0))]) hx hb d_Mo_zero_16 hl (k := 0) rfl (iI_add _ _) (by decide) rfl (fun ls hl => ?_)
        refine lv_goto (tgt := 2) hx hb d_Mo_zero_19 (by decide) ?_
        exact ih (t + 1) (updI g t 0) _ _ ls (by omega) (fun j h1 h2 => by
          by_cases hj : j = t
          · rw [hj, updI_s]
          · rw [updI_n hj]; exact hg j h1 (by omega)) (by omega) hP hD hS (lv_sub hl [0, 1] rfl)
  exact L2 _ 0 f _ _ ls (by omega) (fun j h1 h2 => by omega) (n_lt _) hP hD hS (lv_sub hl [0, 1] rfl)
set_option maxHeartbeats 4000000 in
set_option maxRecDepth 100000 in
theorem c_Mo_fails (l : Launch) (D : va_G) (aC : Nat → ClassId) (b : Nat → Nat) (M : MS) (er p2 : Int) (z cd : Int) (hz : z = 0 ∨ z = 1) (hcd : 1 ≤ cd ∧ cd ≤ 3) (her : 0 ≤ er ∧ er ≤ 3) : CT l D aC y_Mo_fails (rd 0 0) [.ref (b 0), .int (iI z), .int (iI cd)] [(b 0, .inr (6, [.int (iI er), .int (iI M.rw), .int (iI M.cn), .int (iI M.en), .int (iI M.pr), .double (dM M.ko (-3)), .ref (b 1), .ref (b 2), .ref (b 3), .ref (b 4), .ref (b 5), .ref (b 6), .ref (b 7), .ref (b 8), .ref (b 9), .ref (b 10), .ref (b 11), .ref (b 12), .ref (b 13), .ref (b 14), .ref (b 15), .int (iI p2), .ref (b 16), .ref (b 17), .ref (b 18), .ref (b 19), .ref (b 20), .ref (b 21), .ref (b 22)]))] (fun v w => v = some (.int (iI (zP (fE er z cd ≠ 0)))) ∧ w = [(b 0, .inr (6, [.int (iI (fE er z cd)), .int (iI M.rw), .int (iI M.cn), .int (iI M.en), .int (iI M.pr), .double (dM M.ko (-3)), .ref (b 1), .ref (b 2), .ref (b 3), .ref (b 4), .ref (b 5), .ref (b 6), .ref (b 7), .ref (b 8), .ref (b 9), .ref (b 10), .ref (b 11), .ref (b 12), .ref (b 13), .ref (b 14), .ref (b 15), .int (iI p2), .ref (b 16), .ref (b 17), .ref (b 18), .ref (b 19), .ref (b 20), .ref (b 21), .ref (b 22)]))]) := by
  refine CT.of (cc := b_Mo_fails) (maxL := 3) (ret := (some .boolean)) (by decide +kernel) k_Mo_fails (Nat.le_of_ble_eq_true rfl) ?_
  intro p e s m below meth c Q S hr hlocks hQ hK hN hP hD hS ls hl
  obtain ⟨hx, hb, hml, hown, hts⟩ := id S
  have hl : lv_has ls 3 [(0, .ref (b 0)), (1, .int (iI z)), (2, .int (iI cd))] := hl
  refine lv_iload_n hx hb d_Mo_fails_0 rfl (lv_at hl 1 rfl) ?_
  refine x_if_eq (tgt := 16) hx hb d_Mo_fails_1 (by decide) (by omega) (fun c_1 => ?_) (fun c_1 => ?_)
  · refine lv_aload_n hx hb d_Mo_fails_16 rfl (lv_at hl 0 rfl) ?_
    refine va_get (D := D) (ci := 6) (v := .int (iI er)) (C := R_Mo) (T := F_Mo) (N := 29) hx hb hts i_Mo hown hK hP 0 rfl rfl 0 (by decide) (hts _ wf_Mo_78) (fun _ h9 => h9) rfl d_Mo_fails_17 ?_
    refine x_if_eq (tgt := 27) hx hb d_Mo_fails_20 (by decide) (by omega) (fun c_20 => ?_) (fun c_20 => ?_)
    · refine lv_iconst (v := iI 0) hx hb d_Mo_fails_27 rfl ?_
      exact x_zret hx hb hr (rfl) hlocks hQ (⟨by rw [zP_f (by unfold fE; split <;> omega)], show [(b 0, .inr (6, [.int (iI er), .int (iI M.rw), .int (iI M.cn), .int (iI M.en), .int (iI M.pr), .double (dM M.ko (-3)), .ref (b 1), .ref (b 2), .ref (b 3), .ref (b 4), .ref (b 5), .ref (b 6), .ref (b 7), .ref (b 8), .ref (b 9), .ref (b 10), .ref (b 11), .ref (b 12), .ref (b 13), .ref (b 14), .ref (b 15), .int (iI p2), .ref (b 16), .ref (b 17), .ref (b 18), .ref (b 19), .ref (b 20), .ref (b 21), .ref (b 22)]))] = _ by unfold fE; rw [if_neg (by omega)]⟩) rfl hP hS d_Mo_fails_28
    · refine lv_iconst (v := iI 1) hx hb d_Mo_fails_23 rfl ?_
      refine lv_goto (tgt := 28) hx hb d_Mo_fails_24 (by decide) ?_
      exact x_zret hx hb hr (rfl) hlocks hQ (⟨by rw [zP_t (by unfold fE; split <;> omega)], show [(b 0, .inr (6, [.int (iI er), .int (iI M.rw), .int (iI M.cn), .int (iI M.en), .int (iI M.pr), .double (dM M.ko (-3)), .ref (b 1), .ref (b 2), .ref (b 3), .ref (b 4), .ref (b 5), .ref (b 6), .ref (b 7), .ref (b 8), .ref (b 9), .ref (b 10), .ref (b 11), .ref (b 12), .ref (b 13), .ref (b 14), .ref (b 15), .int (iI p2), .ref (b 16), .ref (b 17), .ref (b 18), .ref (b 19), .ref (b 20), .ref (b 21), .ref (b 22)]))] = _ by unfold fE; rw [if_neg (by omega)]⟩) rfl hP hS d_Mo_fails_28
  · refine lv_aload_n hx hb d_Mo_fails_4 rfl (lv_at hl 0 rfl) ?_
    refine va_get (D := D) (ci := 6) (v := .int (iI er)) (C := R_Mo) (T := F_Mo) (N := 29) hx hb hts i_Mo hown hK hP 0 rfl rfl 0 (by decide) (hts _ wf_Mo_78) (fun _ h9 => h9) rfl d_Mo_fails_5 ?_
    refine x_if_ne (tgt := 16) hx hb d_Mo_fails_8 (by decide) (by omega) (fun c_8 => ?_) (fun c_8 => ?_)
    · refine lv_aload_n hx hb d_Mo_fails_16 rfl (lv_at hl 0 rfl) ?_
      refine va_get (D := D) (ci := 6) (v := .int (iI er)) (C := R_Mo) (T := F_Mo) (N := 29) hx hb hts i_Mo hown hK hP 0 rfl rfl 0 (by decide) (hts _ wf_Mo_78) (fun _ h9 => h9) rfl d_Mo_fails_17 ?_
      refine x_if_eq (tgt := 27) hx hb d_Mo_fails_20 (by decide) (by omega) (fun c_20 => ?_) (fun c_20 => ?_)
      · refine lv_iconst (v := iI 0) hx hb d_Mo_fails_27 rfl ?_
        exact x_zret hx hb hr (rfl) hlocks hQ (⟨by rw [zP_f (by unfold fE; split <;> omega)], show [(b 0, .inr (6, [.int (iI er), .int (iI M.rw), .int (iI M.cn), .int (iI M.en), .int (iI M.pr), .double (dM M.ko (-3)), .ref (b 1), .ref (b 2), .ref (b 3), .ref (b 4), .ref (b 5), .ref (b 6), .ref (b 7), .ref (b 8), .ref (b 9), .ref (b 10), .ref (b 11), .ref (b 12), .ref (b 13), .ref (b 14), .ref (b 15), .int (iI p2), .ref (b 16), .ref (b 17), .ref (b 18), .ref (b 19), .ref (b 20), .ref (b 21), .ref (b 22)]))] = _ by unfold fE; rw [if_neg (by omega)]⟩) rfl hP hS d_Mo_fails_28
      · refine lv_iconst (v := iI 1) hx hb d_Mo_fails_23 rfl ?_
        refine lv_goto (tgt := 28) hx hb d_Mo_fails_24 (by decide) ?_
        exact x_zret hx hb hr (rfl) hlocks hQ (⟨by rw [zP_t (by unfold fE; split <;> omega)], show [(b 0, .inr (6, [.int (iI er), .int (iI M.rw), .int (iI M.cn), .int (iI M.en), .int (iI M.pr), .double (dM M.ko (-3)), .ref (b 1), .ref (b 2), .ref (b 3), .ref (b 4), .ref (b 5), .ref (b 6), .ref (b 7), .ref (b 8), .ref (b 9), .ref (b 10), .ref (b 11), .ref (b 12), .ref (b 13), .ref (b 14), .ref (b 15), .int (iI p2), .ref (b 16), .ref (b 17), .ref (b 18), .ref (b 19), .ref (b 20), .ref (b 21), .ref (b 22)]))] = _ by unfold fE; rw [if_neg (by omega)]⟩) rfl hP hS d_Mo_fails_28
    · refine lv_aload_n hx hb d_Mo_fails_11 rfl (lv_at hl 0 rfl) ?_
      refine lv_iload_n hx hb d_Mo_fails_12 rfl (lv_at hl 2 rfl) ?_
      refine va_put (D := D) (ci := 6) (v := .int (iI cd)) (ty := .int) (C := R_Mo) (T := F_Mo) (N := 29) hx hb hts i_Mo t_Mo t_Mo_ok n_Mo hown hK hP hD hS 0 rfl rfl 0 (by decide) (hts _ wf_Mo_78) (fun _ h9 => h9) rfl (by decide +kernel) rfl rfl (Nat.le_of_ble_eq_true rfl) d_Mo_fails_13 (fun H locs hP hD hS => ?_)
      have hP : va_P D CL [(b 0, .inr (6, [.int (iI cd), .int (iI M.rw), .int (iI M.cn), .int (iI M.en), .int (iI M.pr), .double (dM M.ko (-3)), .ref (b 1), .ref (b 2), .ref (b 3), .ref (b 4), .ref (b 5), .ref (b 6), .ref (b 7), .ref (b 8), .ref (b 9), .ref (b 10), .ref (b 11), .ref (b 12), .ref (b 13), .ref (b 14), .ref (b 15), .int (iI p2), .ref (b 16), .ref (b 17), .ref (b 18), .ref (b 19), .ref (b 20), .ref (b 21), .ref (b 22)]))] H := hP
      have hD : va_D (aW [(b 0, .inr (6, [.int (iI er), .int (iI M.rw), .int (iI M.cn), .int (iI M.en), .int (iI M.pr), .double (dM M.ko (-3)), .ref (b 1), .ref (b 2), .ref (b 3), .ref (b 4), .ref (b 5), .ref (b 6), .ref (b 7), .ref (b 8), .ref (b 9), .ref (b 10), .ref (b 11), .ref (b 12), .ref (b 13), .ref (b 14), .ref (b 15), .int (iI p2), .ref (b 16), .ref (b 17), .ref (b 18), .ref (b 19), .ref (b 20), .ref (b 21), .ref (b 22)]))]) [(b 0, .inr (6, [.int (iI cd), .int (iI M.rw), .int (iI M.cn), .int (iI M.en), .int (iI M.pr), .double (dM M.ko (-3)), .ref (b 1), .ref (b 2), .ref (b 3), .ref (b 4), .ref (b 5), .ref (b 6), .ref (b 7), .ref (b 8), .ref (b 9), .ref (b 10), .ref (b 11), .ref (b 12), .ref (b 13), .ref (b 14), .ref (b 15), .int (iI p2), .ref (b 16), .ref (b 17), .ref (b 18), .ref (b 19), .ref (b 20), .ref (b 21), .ref (b 22)]))] := hD
      refine lv_aload_n hx hb d_Mo_fails_16 rfl (lv_at hl 0 rfl) ?_
      refine va_get (D := D) (ci := 6) (v := .int (iI cd)) (C := R_Mo) (T := F_Mo) (N := 29) hx hb hts i_Mo hown hK hP 0 rfl rfl 0 (by decide) (hts _ wf_Mo_78) (fun _ h9 => h9) rfl d_Mo_fails_17 ?_
      refine x_if_eq (tgt := 27) hx hb d_Mo_fails_20 (by decide) (by omega) (fun c_20 => ?_) (fun c_20 => ?_)
      · refine lv_iconst (v := iI 0) hx hb d_Mo_fails_27 rfl ?_
        exact x_zret hx hb hr (rfl) hlocks hQ (⟨by rw [zP_f (by unfold fE; split <;> omega)], show [(b 0, .inr (6, [.int (iI cd), .int (iI M.rw), .int (iI M.cn), .int (iI M.en), .int (iI M.pr), .double (dM M.ko (-3)), .ref (b 1), .ref (b 2), .ref (b 3), .ref (b 4), .ref (b 5), .ref (b 6), .ref (b 7), .ref (b 8), .ref (b 9), .ref (b 10), .ref (b 11), .ref (b 12), .ref (b 13), .ref (b 14), .ref (b 15), .int (iI p2), .ref (b 16), .ref (b 17), .ref (b 18), .ref (b 19), .ref (b 20), .ref (b 21), .ref (b 22)]))] = _ by unfold fE; rw [if_pos ⟨by omega, by omega⟩]⟩) rfl hP hS d_Mo_fails_28
      · refine lv_iconst (v := iI 1) hx hb d_Mo_fails_23 rfl ?_
        refine lv_goto (tgt := 28) hx hb d_Mo_fails_24 (by decide) ?_
        exact x_zret hx hb hr (rfl) hlocks hQ (⟨by rw [zP_t (by unfold fE; split <;> omega)], show [(b 0, .inr (6, [.int (iI cd), .int (iI M.rw), .int (iI M.cn), .int (iI M.en), .int (iI M.pr), .double (dM M.ko (-3)), .ref (b 1), .ref (b 2), .ref (b 3), .ref (b 4), .ref (b 5), .ref (b 6), .ref (b 7), .ref (b 8), .ref (b 9), .ref (b 10), .ref (b 11), .ref (b 12), .ref (b 13), .ref (b 14), .ref (b 15), .int (iI p2), .ref (b 16), .ref (b 17), .ref (b 18), .ref (b 19), .ref (b 20), .ref (b 21), .ref (b 22)]))] = _ by unfold fE; rw [if_pos ⟨by omega, by omega⟩]⟩) rfl hP hS d_Mo_fails_28
set_option maxHeartbeats 4000000 in
set_option maxRecDepth 100000 in
theorem c_Mo_signOfSum (l : Launch) (D : va_G) (aC : Nat → ClassId) (b : Nat → Nat) (M : MS) (er p2 : Int) (f : Int → Int) (V0 : Int) (h : SumOk f V0) (hb7 : -big7 < V0 ∧ V0 < big7) : CR l D aC y_Mo_signOfSum (rd 0 0) [.ref (b 0)] [(b 16, eI aC 440 f), (b 0, .inr (6, [.int (iI er), .int (iI M.rw), .int (iI M.cn), .int (iI M.en), .int (iI M.pr), .double (dM M.ko (-3)), .ref (b 1), .ref (b 2), .ref (b 3), .ref (b 4), .ref (b 5), .ref (b 6), .ref (b 7), .ref (b 8), .ref (b 9), .ref (b 10), .ref (b 11), .ref (b 12), .ref (b 13), .ref (b 14), .ref (b 15), .int (iI p2), .ref (b 16), .ref (b 17), .ref (b 18), .ref (b 19), .ref (b 20), .ref (b 21), .ref (b 22)]))] (fun v => v = some (.int (iI (sgI V0)))) := by
  refine CR.of (cc := b_Mo_signOfSum) (maxL := 2) (ret := (some .int)) (by decide +kernel) k_Mo_signOfSum (Nat.le_of_ble_eq_true rfl) ?_
  intro p e s m below meth c Q S hr hlocks hQ hK hN hP ls hl
  obtain ⟨hx, hb, hml, hown, hts⟩ := id S
  have hl : lv_has ls 2 [(0, .ref (b 0))] := hl
  have hfr : ∀ j : Int, 0 ≤ j → j < 440 → 0 ≤ f j ∧ f j < 65536 := fun j h1 h2 => by have := h.1 j h1 h2; rw [p16] at this; exact this
  refine lv_aload_n hx hb d_Mo_signOfSum_0 rfl (lv_at hl 0 rfl) ?_
  refine va_get (D := D) (ci := 6) (v := .ref (b 16)) (C := R_Mo) (T := F_Mo) (N := 29) hx hb hts i_Mo hown hK hP 1 rfl rfl 22 (by decide) (hts _ wf_Mo_56) (fun _ h9 => h9) rfl d_Mo_signOfSum_1 ?_
  refine lv_sipush (v := iI 439) hx hb d_Mo_signOfSum_4 (by decide +kernel) ?_
  refine x_iald hx hb hK hP 0 rfl (by omega) (by decide) d_Mo_signOfSum_7 ?_
  refine x_ldc hx hb 32768 (by decide +kernel) hown (hts _ wk_Mo_151) d_Mo_signOfSum_8 ?_
  refine x_iand (v := ((f 439) / 32768 % 2 * 32768)) hx hb d_Mo_signOfSum_10 (iI_bit _ 15 (by decide)) ?_
  refine x_if_eq (tgt := 16) hx hb d_Mo_signOfSum_11 (by decide) (by have := hfr 439 (by omega) (by omega); omega) (fun c_11 => ?_) (fun c_11 => ?_)
  · have hS0 : 0 ≤ V0 := by
      rcases (show V0 < 0 ∨ 0 ≤ V0 by omega) with q | q
      · have := (h.neg hb7).mpr q; have := hfr 439 (by omega) (by omega); omega
      · exact q
    refine lv_iconst (v := iI 0) hx hb d_Mo_signOfSum_16 rfl ?_
    refine lv_istore_n (lv' := [(1, .int (iI 0)), (0, .ref (b 0))]) hx hb d_Mo_signOfSum_17 rfl hl (by decide) rfl (fun ls hl => ?_)
    have L18 : ∀ (nn : Nat) (t : Int) (ls : Array Slot), (0 ≤ t ∧ t ≤ 440) → (∀ j : Int, 0 ≤ j → j < t → f j = 0) → 440 - t < (nn : Int) → lv_has ls 2 [(1, .int (iI t)), (0, .ref (b 0))] → W p l e (rd 0 0) s m ([.ref (b 0)]).toArray below meth c s.heap [] 0 0 Q (F0 m 18 ls []) := by
      intro nn
      induction nn with
      | zero => intro t ls ht hz hnn; exact absurd hnn (by omega)
      | succ nn ih =>
        intro t ls ht hz hnn hl
        refine lv_iload_n hx hb d_Mo_signOfSum_18 rfl (lv_at hl 0 rfl) ?_
        refine lv_sipush (v := iI 440) hx hb d_Mo_signOfSum_19 (by decide +kernel) ?_
        refine x_icmp_ge (tgt := 42) hx hb d_Mo_signOfSum_22 (by decide) (by omega) (by omega) (fun c_22 => ?_) (fun c_22 => ?_)
        · refine lv_iconst (v := iI 0) hx hb d_Mo_signOfSum_42 rfl ?_
          exact y_iret hx hb hr hlocks hQ (by unfold sgI; rw [if_neg (by omega), if_pos ((h.zero hb7 hS0).mp (fun j h1 h2 => hz j h1 (by omega)))]) d_Mo_signOfSum_43
        · refine lv_aload_n hx hb d_Mo_signOfSum_25 rfl (lv_at hl 1 rfl) ?_
          refine va_get (D := D) (ci := 6) (v := .ref (b 16)) (C := R_Mo) (T := F_Mo) (N := 29) hx hb hts i_Mo hown hK hP 1 rfl rfl 22 (by decide) (hts _ wf_Mo_56) (fun _ h9 => h9) rfl d_Mo_signOfSum_26 ?_
          refine lv_iload_n hx hb d_Mo_signOfSum_29 rfl (lv_at hl 0 rfl) ?_
          refine x_iald hx hb hK hP 0 rfl (by omega) (by decide) d_Mo_signOfSum_30 ?_
          refine x_if_eq (tgt := 36) hx hb d_Mo_signOfSum_31 (by decide) (by have := hfr t (by omega) (by omega); omega) (fun c_31 => ?_) (fun c_31 => ?_)
          · refine lv_iinc (v := iI (t + 1)) (lv' := [(1, .int (iI (t + 1))), (0, .ref (b 0))]) hx hb d_Mo_signOfSum_36 hl (k := 0) rfl (iI_add _ _) (by decide) rfl (fun ls hl => ?_)
            refine lv_goto (tgt := 18) hx hb d_Mo_signOfSum_39 (by decide) ?_
            exact ih (t + 1) ls (by omega) (fun j h1 h2 => by
              by_cases hj : j = t
              · rw [hj]; exact c_31
              · exact hz j h1 (by omega)) (by omega) (lv_sub hl [0, 1] rfl)
          · refine lv_iconst (v := iI 1) hx hb d_Mo_signOfSum_34 rfl ?_
            exact y_iret hx hb hr hlocks hQ (by unfold sgI; rw [if_neg (by omega), if_neg (fun q => c_31 ((h.zero hb7 hS0).mpr q t (by omega) (by omega)))]) d_Mo_signOfSum_35
    exact L18 _ 0 ls (by omega) (fun j h1 h2 => by omega) (n_lt _) (lv_sub hl [0, 1] rfl)
  · refine lv_iconst (v := iI (-1)) hx hb d_Mo_signOfSum_14 rfl ?_
    exact y_iret hx hb hr hlocks hQ (by unfold sgI; rw [if_pos ((h.neg hb7).mp (by have := hfr 439 (by omega) (by omega); omega))]) d_Mo_signOfSum_15

set_option maxHeartbeats 4000000 in
set_option maxRecDepth 100000 in
theorem c_Mo_exact_0 (l : Launch) (D : va_G) (aC : Nat → ClassId) (b : Nat → Nat) (M : MS) (er p2 : Int) (r : Nat) (f : Int → Int) (k q : Int) (hk : -4294967296 < k ∧ k < 4294967296) (hq : -700 ≤ q ∧ q ≤ 700) (hs : k = 0) : CT l D aC y_Mo_exact (rd 0 0) [.ref (b 0), .double (dM k q), .ref r] [(r, eI aC 1200 f), (b 0, .inr (6, [.int (iI er), .int (iI M.rw), .int (iI M.cn), .int (iI M.en), .int (iI M.pr), .double (dM M.ko (-3)), .ref (b 1), .ref (b 2), .ref (b 3), .ref (b 4), .ref (b 5), .ref (b 6), .ref (b 7), .ref (b 8), .ref (b 9), .ref (b 10), .ref (b 11), .ref (b 12), .ref (b 13), .ref (b 14), .ref (b 15), .int (iI p2), .ref (b 16), .ref (b 17), .ref (b 18), .ref (b 19), .ref (b 20), .ref (b 21), .ref (b 22)]))] (fun v w => v = some (.int (iI (ex4 k))) ∧ ∃ g : Int → Int, w = [(r, eI aC 1200 g), (b 0, .inr (6, [.int (iI er), .int (iI M.rw), .int (iI M.cn), .int (iI M.en), .int (iI M.pr), .double (dM M.ko (-3)), .ref (b 1), .ref (b 2), .ref (b 3), .ref (b 4), .ref (b 5), .ref (b 6), .ref (b 7), .ref (b 8), .ref (b 9), .ref (b 10), .ref (b 11), .ref (b 12), .ref (b 13), .ref (b 14), .ref (b 15), .int (iI (if k = 0 then 0 else q - nt k)), .ref (b 16), .ref (b 17), .ref (b 18), .ref (b 19), .ref (b 20), .ref (b 21), .ref (b 22)]))] ∧ dg 16 g (ex4 k).toNat = (k.natAbs : Int) * 2 ^ nt k ∧ ∀ j : Int, 0 ≤ j → j < ex4 k → 0 ≤ g j ∧ g j < 65536) := by
  refine CT.of (cc := b_Mo_exact) (maxL := 10) (ret := (some .int)) (by decide +kernel) k_Mo_exact (Nat.le_of_ble_eq_true rfl) ?_
  intro p e s m below meth c Q S hr hlocks hQ hK hN hP hD hS ls hl
  obtain ⟨hx, hb, hml, hown, hts⟩ := id S
  have hl : lv_has ls 10 [(0, .ref (b 0)), (1, .double (dM k q)), (3, .ref r)] := hl
  refine lv_dload_n hx hb d_Mo_exact_0 rfl (lv_at hl 1 rfl) ?_
  refine x_dconst0 hx hb d_Mo_exact_1 ?_
  refine x_dcmp_ge (tgt := 11) hx hb d_Mo_exact_2 d_Mo_exact_3 (by decide) (by unfold dOk; omega) (by unfold dOk; omega) (fun c_2 => ?_) (fun c_2 => (absurd (zs_ge.mpr (by omega)) c_2))
  refine lv_dload_n hx hb d_Mo_exact_11 rfl (lv_at hl 1 rfl) ?_
  refine lv_dstore (lv' := [(4, .double (dM k q)), (0, .ref (b 0)), (1, .double (dM k q)), (3, .ref r)]) hx hb d_Mo_exact_12 hl (by decide) rfl (fun ls hl => ?_)
  refine lv_iconst (v := iI 0) hx hb d_Mo_exact_14 rfl ?_
  refine lv_istore (lv' := [(6, .int (iI 0)), (4, .double (dM k q)), (0, .ref (b 0)), (1, .double (dM k q)), (3, .ref r)]) hx hb d_Mo_exact_15 hl (by decide) rfl (fun ls hl => ?_)
  refine lv_dload hx hb d_Mo_exact_17 (lv_at hl 1 rfl) ?_
  refine x_dconst0 hx hb d_Mo_exact_19 ?_
  refine x_dcmp_ne (tgt := 31) hx hb d_Mo_exact_20 d_Mo_exact_21 (by decide) (by unfold dOk; omega) (by unfold dOk; omega) (fun c_20 => (absurd (zs_eq.mpr (by omega)) c_20)) (fun c_20 => ?_)
  refine lv_aload_n hx hb d_Mo_exact_24 rfl (lv_at hl 2 rfl) ?_
  refine lv_iconst (v := iI 0) hx hb d_Mo_exact_25 rfl ?_
  refine va_put (D := D) (ci := 6) (v := .int (iI 0)) (ty := .int) (C := R_Mo) (T := F_Mo) (N := 29) hx hb hts i_Mo t_Mo t_Mo_ok n_Mo hown hK hP hD hS 1 rfl rfl 21 (by decide) (hts _ wf_Mo_89) (fun _ h9 => h9) rfl (by decide +kernel) rfl rfl (Nat.le_of_ble_eq_true rfl) d_Mo_exact_26 (fun H locs hP hD hS => ?_)
  have hP : va_P D CL [(r, eI aC 1200 f), (b 0, .inr (6, [.int (iI er), .int (iI M.rw), .int (iI M.cn), .int (iI M.en), .int (iI M.pr), .double (dM M.ko (-3)), .ref (b 1), .ref (b 2), .ref (b 3), .ref (b 4), .ref (b 5), .ref (b 6), .ref (b 7), .ref (b 8), .ref (b 9), .ref (b 10), .ref (b 11), .ref (b 12), .ref (b 13), .ref (b 14), .ref (b 15), .int (iI 0), .ref (b 16), .ref (b 17), .ref (b 18), .ref (b 19), .ref (b 20), .ref (b 21), .ref (b 22)]))] H := hP
  have hD : va_D (aW [(r, eI aC 1200 f), (b 0, .inr (6, [.int (iI er), .int (iI M.rw), .int (iI M.cn), .int (iI M.en), .int (iI M.pr), .double (dM M.ko (-3)), .ref (b 1), .ref (b 2), .ref (b 3), .ref (b 4), .ref (b 5), .ref (b 6), .ref (b 7), .ref (b 8), .ref (b 9), .ref (b 10), .ref (b 11), .ref (b 12), .ref (b 13), .ref (b 14), .ref (b 15), .int (iI p2), .ref (b 16), .ref (b 17), .ref (b 18), .ref (b 19), .ref (b 20), .ref (b 21), .ref (b 22)]))]) [(r, eI aC 1200 f), (b 0, .inr (6, [.int (iI er), .int (iI M.rw), .int (iI M.cn), .int (iI M.en), .int (iI M.pr), .double (dM M.ko (-3)), .ref (b 1), .ref (b 2), .ref (b 3), .ref (b 4), .ref (b 5), .ref (b 6), .ref (b 7), .ref (b 8), .ref (b 9), .ref (b 10), .ref (b 11), .ref (b 12), .ref (b 13), .ref (b 14), .ref (b 15), .int (iI 0), .ref (b 16), .ref (b 17), .ref (b 18), .ref (b 19), .ref (b 20), .ref (b 21), .ref (b 22)]))] := hD
  refine lv_iconst (v := iI 0) hx hb d_Mo_exact_29 rfl ?_
  exact x_iret hx hb hr hlocks hQ (⟨by unfold ex4; rw [if_pos hs], f, show [(r, eI aC 1200 f), (b 0, .inr (6, [.int (iI er), .int (iI M.rw), .int (iI M.cn), .int (iI M.en), .int (iI M.pr), .double (dM M.ko (-3)), .ref (b 1), .ref (b 2), .ref (b 3), .ref (b 4), .ref (b 5), .ref (b 6), .ref (b 7), .ref (b 8), .ref (b 9), .ref (b 10), .ref (b 11), .ref (b 12), .ref (b 13), .ref (b 14), .ref (b 15), .int (iI 0), .ref (b 16), .ref (b 17), .ref (b 18), .ref (b 19), .ref (b 20), .ref (b 21), .ref (b 22)]))] = _ by rw [if_pos hs], by unfold ex4; rw [if_pos hs]; exact ⟨by rw [hs]; simp [dg], fun j h1 h2 => by omega⟩⟩) rfl hP hS d_Mo_exact_30
theorem ex_fin {f : Int → Int} {P Q : Int} (hQ : Q = P) (hP : 0 ≤ P ∧ P < 9007199254740992) : dg 16 (updI (updI (updI (updI f 0 (P % 65536)) (0 + 1) (P / 65536 % 65536)) (0 + 1 + 1) (P / 65536 / 65536 % 65536)) (0 + 1 + 1 + 1) (P / 65536 / 65536 / 65536 % 65536)) (4 : Int).toNat = Q ∧ ∀ j : Int, 0 ≤ j → j < 4 → 0 ≤ (updI (updI (updI (updI f 0 (P % 65536)) (0 + 1) (P / 65536 % 65536)) (0 + 1 + 1) (P / 65536 / 65536 % 65536)) (0 + 1 + 1 + 1) (P / 65536 / 65536 / 65536 % 65536)) j ∧ (updI (updI (updI (updI f 0 (P % 65536)) (0 + 1) (P / 65536 % 65536)) (0 + 1 + 1) (P / 65536 / 65536 % 65536)) (0 + 1 + 1 + 1) (P / 65536 / 65536 / 65536 % 65536)) j < 65536 := by
  rw [hQ]
  exact ex_dg (f := f) hP _ rfl rfl rfl rfl
set_option maxHeartbeats 4000000 in
set_option maxRecDepth 100000 in
theorem c_Mo_exact_p (l : Launch) (D : va_G) (aC : Nat → ClassId) (b : Nat → Nat) (M : MS) (er p2 : Int) (r : Nat) (f : Int → Int) (k q : Int) (hk : -4294967296 < k ∧ k < 4294967296) (hq : -700 ≤ q ∧ q ≤ 700) (hs : 0 < k) : CT l D aC y_Mo_exact (rd 0 0) [.ref (b 0), .double (dM k q), .ref r] [(r, eI aC 1200 f), (b 0, .inr (6, [.int (iI er), .int (iI M.rw), .int (iI M.cn), .int (iI M.en), .int (iI M.pr), .double (dM M.ko (-3)), .ref (b 1), .ref (b 2), .ref (b 3), .ref (b 4), .ref (b 5), .ref (b 6), .ref (b 7), .ref (b 8), .ref (b 9), .ref (b 10), .ref (b 11), .ref (b 12), .ref (b 13), .ref (b 14), .ref (b 15), .int (iI p2), .ref (b 16), .ref (b 17), .ref (b 18), .ref (b 19), .ref (b 20), .ref (b 21), .ref (b 22)]))] (fun v w => v = some (.int (iI (ex4 k))) ∧ ∃ g : Int → Int, w = [(r, eI aC 1200 g), (b 0, .inr (6, [.int (iI er), .int (iI M.rw), .int (iI M.cn), .int (iI M.en), .int (iI M.pr), .double (dM M.ko (-3)), .ref (b 1), .ref (b 2), .ref (b 3), .ref (b 4), .ref (b 5), .ref (b 6), .ref (b 7), .ref (b 8), .ref (b 9), .ref (b 10), .ref (b 11), .ref (b 12), .ref (b 13), .ref (b 14), .ref (b 15), .int (iI (if k = 0 then 0 else q - nt k)), .ref (b 16), .ref (b 17), .ref (b 18), .ref (b 19), .ref (b 20), .ref (b 21), .ref (b 22)]))] ∧ dg 16 g (ex4 k).toNat = (k.natAbs : Int) * 2 ^ nt k ∧ ∀ j : Int, 0 ≤ j → j < ex4 k → 0 ≤ g j ∧ g j < 65536) := by
  refine CT.of (cc := b_Mo_exact) (maxL := 10) (ret := (some .int)) (by decide +kernel) k_Mo_exact (Nat.le_of_ble_eq_true rfl) ?_
  intro p e s m below meth c Q S hr hlocks hQ hK hN hP hD hS ls hl
  obtain ⟨hx, hb, hml, hown, hts⟩ := id S
  have hl : lv_has ls 10 [(0, .ref (b 0)), (1, .double (dM k q)), (3, .ref r)] := hl
  have hnt := nt_r (k := k) (by omega) (by omega)
  refine lv_dload_n hx hb d_Mo_exact_0 rfl (lv_at hl 1 rfl) ?_
  refine x_dconst0 hx hb d_Mo_exact_1 ?_
  refine x_dcmp_ge (tgt := 11) hx hb d_Mo_exact_2 d_Mo_exact_3 (by decide) (by unfold dOk; omega) (by unfold dOk; omega) (fun c_2 => ?_) (fun c_2 => (absurd (zs_ge.mpr (by omega)) c_2))
  refine lv_dload_n hx hb d_Mo_exact_11 rfl (lv_at hl 1 rfl) ?_
  refine lv_dstore (lv' := [(4, .double (dM k q)), (0, .ref (b 0)), (1, .double (dM k q)), (3, .ref r)]) hx hb d_Mo_exact_12 hl (by decide) rfl (fun ls hl => ?_)
  refine lv_iconst (v := iI 0) hx hb d_Mo_exact_14 rfl ?_
  refine lv_istore (lv' := [(6, .int (iI 0)), (4, .double (dM k q)), (0, .ref (b 0)), (1, .double (dM k q)), (3, .ref r)]) hx hb d_Mo_exact_15 hl (by decide) rfl (fun ls hl => ?_)
  refine lv_dload hx hb d_Mo_exact_17 (lv_at hl 1 rfl) ?_
  refine x_dconst0 hx hb d_Mo_exact_19 ?_
  refine x_dcmp_ne (tgt := 31) hx hb d_Mo_exact_20 d_Mo_exact_21 (by decide) (by unfold dOk; omega) (by unfold dOk; omega) (fun c_20 => ?_) (fun c_20 => (absurd (zs_eq.mp c_20) (by omega)))
  have L31 : ∀ (nn : Nat) (t : Int) (H : Heap) (locs : List Loc) (ls : Array Slot), (0 ≤ t ∧ (t ≤ q - nt k ∨ t = 0)) → 2000 - t < (nn : Int) → va_P D CL [(r, eI aC 1200 f), (b 0, .inr (6, [.int (iI er), .int (iI M.rw), .int (iI M.cn), .int (iI M.en), .int (iI M.pr), .double (dM M.ko (-3)), .ref (b 1), .ref (b 2), .ref (b 3), .ref (b 4), .ref (b 5), .ref (b 6), .ref (b 7), .ref (b 8), .ref (b 9), .ref (b 10), .ref (b 11), .ref (b 12), .ref (b 13), .ref (b 14), .ref (b 15), .int (iI p2), .ref (b 16), .ref (b 17), .ref (b 18), .ref (b 19), .ref (b 20), .ref (b 21), .ref (b 22)]))] H → va_D (aW [(r, eI aC 1200 f), (b 0, .inr (6, [.int (iI er), .int (iI M.rw), .int (iI M.cn), .int (iI M.en), .int (iI M.pr), .double (dM M.ko (-3)), .ref (b 1), .ref (b 2), .ref (b 3), .ref (b 4), .ref (b 5), .ref (b 6), .ref (b 7), .ref (b 8), .ref (b 9), .ref (b 10), .ref (b 11), .ref (b 12), .ref (b 13), .ref (b 14), .ref (b 15), .int (iI p2), .ref (b 16), .ref (b 17), .ref (b 18), .ref (b 19), .ref (b 20), .ref (b 21), .ref (b 22)]))]) [(r, eI aC 1200 f), (b 0, .inr (6, [.int (iI er), .int (iI M.rw), .int (iI M.cn), .int (iI M.en), .int (iI M.pr), .double (dM M.ko (-3)), .ref (b 1), .ref (b 2), .ref (b 3), .ref (b 4), .ref (b 5), .ref (b 6), .ref (b 7), .ref (b 8), .ref (b 9), .ref (b 10), .ref (b 11), .ref (b 12), .ref (b 13), .ref (b 14), .ref (b 15), .int (iI p2), .ref (b 16), .ref (b 17), .ref (b 18), .ref (b 19), .ref (b 20), .ref (b 21), .ref (b 22)]))] → va_S (aW [(r, eI aC 1200 f), (b 0, .inr (6, [.int (iI er), .int (iI M.rw), .int (iI M.cn), .int (iI M.en), .int (iI M.pr), .double (dM M.ko (-3)), .ref (b 1), .ref (b 2), .ref (b 3), .ref (b 4), .ref (b 5), .ref (b 6), .ref (b 7), .ref (b 8), .ref (b 9), .ref (b 10), .ref (b 11), .ref (b 12), .ref (b 13), .ref (b 14), .ref (b 15), .int (iI p2), .ref (b 16), .ref (b 17), .ref (b 18), .ref (b 19), .ref (b 20), .ref (b 21), .ref (b 22)]))]) s.heap H locs → lv_has ls 10 [(6, .int (iI t)), (4, .double (dM k (q + (-t)))), (0, .ref (b 0)), (3, .ref r)] → W p l e (rd 0 0) s m ([.ref (b 0), .double (dM k q), .ref r]).toArray below meth c H locs 0 0 Q (F0 m 31 ls []) := by
    intro nn
    induction nn with
    | zero => intro t H locs ls ht hnn; exact absurd hnn (by omega)
    | succ nn ih =>
      intro t H locs ls ht hnn hP hD hS hl
      refine lv_dload hx hb d_Mo_exact_31 (lv_at hl 1 rfl) ?_
      refine x_ldc2d hx hb 1 53 (by decide +kernel) hown (hts _ wk_Mo_92) d_Mo_exact_33 ?_
      refine x_dcmp_lt (tgt := 54) hx hb d_Mo_exact_36 d_Mo_exact_37 (by decide) (by unfold dOk; omega) (by unfold dOk; omega) (fun c_36 => ?_) (fun c_36 => ?_)
      · have e_36 : ¬ (nt k : Int) < q + (-t) := fun z => absurd ((nt_ge (k := k) (q := q + (-t)) (by omega) (by omega) (by omega)).mpr z) (by omega)
        have L54 : ∀ (nn : Nat) (u : Int) (H : Heap) (locs : List Loc) (ls : Array Slot), (0 ≤ u ∧ (u ≤ nt k - (q - t) ∨ u = 0)) → 2000 - u < (nn : Int) → va_P D CL [(r, eI aC 1200 f), (b 0, .inr (6, [.int (iI er), .int (iI M.rw), .int (iI M.cn), .int (iI M.en), .int (iI M.pr), .double (dM M.ko (-3)), .ref (b 1), .ref (b 2), .ref (b 3), .ref (b 4), .ref (b 5), .ref (b 6), .ref (b 7), .ref (b 8), .ref (b 9), .ref (b 10), .ref (b 11), .ref (b 12), .ref (b 13), .ref (b 14), .ref (b 15), .int (iI p2), .ref (b 16), .ref (b 17), .ref (b 18), .ref (b 19), .ref (b 20), .ref (b 21), .ref (b 22)]))] H → va_D (aW [(r, eI aC 1200 f), (b 0, .inr (6, [.int (iI er), .int (iI M.rw), .int (iI M.cn), .int (iI M.en), .int (iI M.pr), .double (dM M.ko (-3)), .ref (b 1), .ref (b 2), .ref (b 3), .ref (b 4), .ref (b 5), .ref (b 6), .ref (b 7), .ref (b 8), .ref (b 9), .ref (b 10), .ref (b 11), .ref (b 12), .ref (b 13), .ref (b 14), .ref (b 15), .int (iI p2), .ref (b 16), .ref (b 17), .ref (b 18), .ref (b 19), .ref (b 20), .ref (b 21), .ref (b 22)]))]) [(r, eI aC 1200 f), (b 0, .inr (6, [.int (iI er), .int (iI M.rw), .int (iI M.cn), .int (iI M.en), .int (iI M.pr), .double (dM M.ko (-3)), .ref (b 1), .ref (b 2), .ref (b 3), .ref (b 4), .ref (b 5), .ref (b 6), .ref (b 7), .ref (b 8), .ref (b 9), .ref (b 10), .ref (b 11), .ref (b 12), .ref (b 13), .ref (b 14), .ref (b 15), .int (iI p2), .ref (b 16), .ref (b 17), .ref (b 18), .ref (b 19), .ref (b 20), .ref (b 21), .ref (b 22)]))] → va_S (aW [(r, eI aC 1200 f), (b 0, .inr (6, [.int (iI er), .int (iI M.rw), .int (iI M.cn), .int (iI M.en), .int (iI M.pr), .double (dM M.ko (-3)), .ref (b 1), .ref (b 2), .ref (b 3), .ref (b 4), .ref (b 5), .ref (b 6), .ref (b 7), .ref (b 8), .ref (b 9), .ref (b 10), .ref (b 11), .ref (b 12), .ref (b 13), .ref (b 14), .ref (b 15), .int (iI p2), .ref (b 16), .ref (b 17), .ref (b 18), .ref (b 19), .ref (b 20), .ref (b 21), .ref (b 22)]))]) s.heap H locs → lv_has ls 10 [(6, .int (iI (t - u))), (4, .double (dM k (q + (-t) + u))), (0, .ref (b 0)), (3, .ref r)] → W p l e (rd 0 0) s m ([.ref (b 0), .double (dM k q), .ref r]).toArray below meth c H locs 0 0 Q (F0 m 54 ls []) := by
          intro nn54
          induction nn54 with
          | zero => intro u H locs ls hu hnn54; exact absurd hnn54 (by omega)
          | succ nn54 ih54 =>
            intro u H locs ls hu hnn54 hP hD hS hl
            refine lv_dload hx hb d_Mo_exact_54 (lv_at hl 1 rfl) ?_
            refine x_ldc2d hx hb 1 52 (by decide +kernel) hown (hts _ wk_Mo_96) d_Mo_exact_56 ?_
            refine x_dcmp_ge (tgt := 85) hx hb d_Mo_exact_59 d_Mo_exact_60 (by decide) (by unfold dOk; omega) (by unfold dOk; omega) (fun c_59 => ?_) (fun c_59 => ?_)
            · have e_59 := (nt_le (k := k) (by omega) (by omega) (by omega)).mp c_59
              refine lv_dload hx hb d_Mo_exact_85 (lv_at hl 1 rfl) ?_
              have hPn := nt_m (k := k) (by omega) (by omega)
              refine x_topd k (q + (-t) + u) k (nt k : Int) (by rw [show q + (-t) + u = (nt k : Int) by omega]) ?_
              refine x_d2l hx hb d_Mo_exact_87 (by unfold dOk; omega) (by omega) ?_
              obtain ⟨P, hPd⟩ : ∃ z : Int, k * 2 ^ (nt k) = z := ⟨_, rfl⟩
              refine x_topl _ P hPd ?_
              rw [hPd] at hPn
              refine lv_lstore (lv' := [(7, .long (lI P)), (6, .int (iI (t - u))), (4, .double (dM k (q + (-t) + u))), (0, .ref (b 0)), (3, .ref r)]) hx hb d_Mo_exact_88 hl (by decide) rfl (fun ls hl => ?_)
              refine lv_iconst (v := iI 0) hx hb d_Mo_exact_90 rfl ?_
              refine lv_istore (lv' := [(9, .int (iI 0)), (7, .long (lI P)), (6, .int (iI (t - u))), (4, .double (dM k (q + (-t) + u))), (0, .ref (b 0)), (3, .ref r)]) hx hb d_Mo_exact_91 hl (by decide) rfl (fun ls hl => ?_)
              refine lv_lload hx hb d_Mo_exact_93 (lv_at hl 1 rfl) ?_
              refine lv_lconst (v := lI 0) hx hb d_Mo_exact_95 (by decide +kernel) ?_
              refine x_lcmp_eq (tgt := 124) hx hb d_Mo_exact_96 d_Mo_exact_97 (by decide) (by omega) (by omega) (fun c_96 => (by exfalso; omega)) (fun c_96 => ?_)
              refine lv_aload_n hx hb d_Mo_exact_100 rfl (lv_at hl 5 rfl) ?_
              refine lv_iload hx hb d_Mo_exact_101 (lv_at hl 0 rfl) ?_
              refine lv_iinc (v := iI (0 + 1)) (lv' := [(9, .int (iI (0 + 1))), (7, .long (lI P)), (6, .int (iI (t - u))), (4, .double (dM k (q + (-t) + u))), (0, .ref (b 0)), (3, .ref r)]) hx hb d_Mo_exact_103 hl (k := 0) rfl (iI_add _ _) (by decide) rfl (fun ls hl => ?_)
              refine lv_lload hx hb d_Mo_exact_106 (lv_at hl 1 rfl) ?_
              refine x_ldc2 hx hb 65535 (by decide +kernel) hown (hts _ wk_Mo_82) d_Mo_exact_108 ?_
              refine x_land (v := (P % 65536)) hx hb d_Mo_exact_111 (lI_m16 _) ?_
              refine x_l2i hx hb d_Mo_exact_112 ?_
              refine x_iast hx hb hK hP hD hS 0 rfl (by omega) (by decide) d_Mo_exact_113 (fun H locs hP hD hS => ?_)
              have hP : va_P D CL [(r, eI aC 1200 (updI f 0 (P % 65536))), (b 0, .inr (6, [.int (iI er), .int (iI M.rw), .int (iI M.cn), .int (iI M.en), .int (iI M.pr), .double (dM M.ko (-3)), .ref (b 1), .ref (b 2), .ref (b 3), .ref (b 4), .ref (b 5), .ref (b 6), .ref (b 7), .ref (b 8), .ref (b 9), .ref (b 10), .ref (b 11), .ref (b 12), .ref (b 13), .ref (b 14), .ref (b 15), .int (iI p2), .ref (b 16), .ref (b 17), .ref (b 18), .ref (b 19), .ref (b 20), .ref (b 21), .ref (b 22)]))] H := hP
              have hD : va_D (aW [(r, eI aC 1200 f), (b 0, .inr (6, [.int (iI er), .int (iI M.rw), .int (iI M.cn), .int (iI M.en), .int (iI M.pr), .double (dM M.ko (-3)), .ref (b 1), .ref (b 2), .ref (b 3), .ref (b 4), .ref (b 5), .ref (b 6), .ref (b 7), .ref (b 8), .ref (b 9), .ref (b 10), .ref (b 11), .ref (b 12), .ref (b 13), .ref (b 14), .ref (b 15), .int (iI p2), .ref (b 16), .ref (b 17), .ref (b 18), .ref (b 19), .ref (b 20), .ref (b 21), .ref (b 22)]))]) [(r, eI aC 1200 (updI f 0 (P % 65536))), (b 0, .inr (6, [.int (iI er), .int (iI M.rw), .int (iI M.cn), .int (iI M.en), .int (iI M.pr), .double (dM M.ko (-3)), .ref (b 1), .ref (b 2), .ref (b 3), .ref (b 4), .ref (b 5), .ref (b 6), .ref (b 7), .ref (b 8), .ref (b 9), .ref (b 10), .ref (b 11), .ref (b 12), .ref (b 13), .ref (b 14), .ref (b 15), .int (iI p2), .ref (b 16), .ref (b 17), .ref (b 18), .ref (b 19), .ref (b 20), .ref (b 21), .ref (b 22)]))] := hD
              refine lv_lload hx hb d_Mo_exact_114 (lv_at hl 1 rfl) ?_
              refine lv_bipush (v := iI 16) hx hb d_Mo_exact_116 (by decide +kernel) ?_
              refine x_lshr hx hb d_Mo_exact_118 (by omega) (by omega) ?_
              refine x_topl _ (P / 65536) rfl ?_
              refine lv_lstore (lv' := [(7, .long (lI (P / 65536))), (9, .int (iI (0 + 1))), (6, .int (iI (t - u))), (4, .double (dM k (q + (-t) + u))), (0, .ref (b 0)), (3, .ref r)]) hx hb d_Mo_exact_119 hl (by decide) rfl (fun ls hl => ?_)
              refine lv_goto (tgt := 93) hx hb d_Mo_exact_121 (by decide) ?_
              refine lv_lload hx hb d_Mo_exact_93 (lv_at hl 0 rfl) ?_
              refine lv_lconst (v := lI 0) hx hb d_Mo_exact_95 (by decide +kernel) ?_
              refine x_lcmp_eq (tgt := 124) hx hb d_Mo_exact_96 d_Mo_exact_97 (by decide) (by omega) (by omega) (fun c_96 => (by exfalso; omega)) (fun c_96 => ?_)
              refine lv_aload_n hx hb d_Mo_exact_100 rfl (lv_at hl 5 rfl) ?_
              refine lv_iload hx hb d_Mo_exact_101 (lv_at hl 1 rfl) ?_
              refine lv_iinc (v := iI (0 + 1 + 1)) (lv' := [(9, .int (iI (0 + 1 + 1))), (7, .long (lI (P / 65536))), (6, .int (iI (t - u))), (4, .double (dM k (q + (-t) + u))), (0, .ref (b 0)), (3, .ref r)]) hx hb d_Mo_exact_103 hl (k := 1) rfl (iI_add _ _) (by decide) rfl (fun ls hl => ?_)
              refine lv_lload hx hb d_Mo_exact_106 (lv_at hl 1 rfl) ?_
              refine x_ldc2 hx hb 65535 (by decide +kernel) hown (hts _ wk_Mo_82) d_Mo_exact_108 ?_
              refine x_land (v := ((P / 65536) % 65536)) hx hb d_Mo_exact_111 (lI_m16 _) ?_
              refine x_l2i hx hb d_Mo_exact_112 ?_
              refine x_iast hx hb hK hP hD hS 0 rfl (by omega) (by decide) d_Mo_exact_113 (fun H locs hP hD hS => ?_)
              have hP : va_P D CL [(r, eI aC 1200 (updI (updI f 0 (P % 65536)) (0 + 1) ((P / 65536) % 65536))), (b 0, .inr (6, [.int (iI er), .int (iI M.rw), .int (iI M.cn), .int (iI M.en), .int (iI M.pr), .double (dM M.ko (-3)), .ref (b 1), .ref (b 2), .ref (b 3), .ref (b 4), .ref (b 5), .ref (b 6), .ref (b 7), .ref (b 8), .ref (b 9), .ref (b 10), .ref (b 11), .ref (b 12), .ref (b 13), .ref (b 14), .ref (b 15), .int (iI p2), .ref (b 16), .ref (b 17), .ref (b 18), .ref (b 19), .ref (b 20), .ref (b 21), .ref (b 22)]))] H := hP
              have hD : va_D (aW [(r, eI aC 1200 f), (b 0, .inr (6, [.int (iI er), .int (iI M.rw), .int (iI M.cn), .int (iI M.en), .int (iI M.pr), .double (dM M.ko (-3)), .ref (b 1), .ref (b 2), .ref (b 3), .ref (b 4), .ref (b 5), .ref (b 6), .ref (b 7), .ref (b 8), .ref (b 9), .ref (b 10), .ref (b 11), .ref (b 12), .ref (b 13), .ref (b 14), .ref (b 15), .int (iI p2), .ref (b 16), .ref (b 17), .ref (b 18), .ref (b 19), .ref (b 20), .ref (b 21), .ref (b 22)]))]) [(r, eI aC 1200 (updI (updI f 0 (P % 65536)) (0 + 1) ((P / 65536) % 65536))), (b 0, .inr (6, [.int (iI er), .int (iI M.rw), .int (iI M.cn), .int (iI M.en), .int (iI M.pr), .double (dM M.ko (-3)), .ref (b 1), .ref (b 2), .ref (b 3), .ref (b 4), .ref (b 5), .ref (b 6), .ref (b 7), .ref (b 8), .ref (b 9), .ref (b 10), .ref (b 11), .ref (b 12), .ref (b 13), .ref (b 14), .ref (b 15), .int (iI p2), .ref (b 16), .ref (b 17), .ref (b 18), .ref (b 19), .ref (b 20), .ref (b 21), .ref (b 22)]))] := hD
              refine lv_lload hx hb d_Mo_exact_114 (lv_at hl 1 rfl) ?_
              refine lv_bipush (v := iI 16) hx hb d_Mo_exact_116 (by decide +kernel) ?_
              refine x_lshr hx hb d_Mo_exact_118 (by omega) (by omega) ?_
              refine x_topl _ ((P / 65536) / 65536) rfl ?_
              refine lv_lstore (lv' := [(7, .long (lI ((P / 65536) / 65536))), (9, .int (iI (0 + 1 + 1))), (6, .int (iI (t - u))), (4, .double (dM k (q + (-t) + u))), (0, .ref (b 0)), (3, .ref r)]) hx hb d_Mo_exact_119 hl (by decide) rfl (fun ls hl => ?_)
              refine lv_goto (tgt := 93) hx hb d_Mo_exact_121 (by decide) ?_
              refine lv_lload hx hb d_Mo_exact_93 (lv_at hl 0 rfl) ?_
              refine lv_lconst (v := lI 0) hx hb d_Mo_exact_95 (by decide +kernel) ?_
              refine x_lcmp_eq (tgt := 124) hx hb d_Mo_exact_96 d_Mo_exact_97 (by decide) (by omega) (by omega) (fun c_96 => (by exfalso; omega)) (fun c_96 => ?_)
              refine lv_aload_n hx hb d_Mo_exact_100 rfl (lv_at hl 5 rfl) ?_
              refine lv_iload hx hb d_Mo_exact_101 (lv_at hl 1 rfl) ?_
              refine lv_iinc (v := iI (0 + 1 + 1 + 1)) (lv' := [(9, .int (iI (0 + 1 + 1 + 1))), (7, .long (lI ((P / 65536) / 65536))), (6, .int (iI (t - u))), (4, .double (dM k (q + (-t) + u))), (0, .ref (b 0)), (3, .ref r)]) hx hb d_Mo_exact_103 hl (k := 1) rfl (iI_add _ _) (by decide) rfl (fun ls hl => ?_)
              refine lv_lload hx hb d_Mo_exact_106 (lv_at hl 1 rfl) ?_
              refine x_ldc2 hx hb 65535 (by decide +kernel) hown (hts _ wk_Mo_82) d_Mo_exact_108 ?_
              refine x_land (v := (((P / 65536) / 65536) % 65536)) hx hb d_Mo_exact_111 (lI_m16 _) ?_
              refine x_l2i hx hb d_Mo_exact_112 ?_
              refine x_iast hx hb hK hP hD hS 0 rfl (by omega) (by decide) d_Mo_exact_113 (fun H locs hP hD hS => ?_)
              have hP : va_P D CL [(r, eI aC 1200 (updI (updI (updI f 0 (P % 65536)) (0 + 1) ((P / 65536) % 65536)) (0 + 1 + 1) (((P / 65536) / 65536) % 65536))), (b 0, .inr (6, [.int (iI er), .int (iI M.rw), .int (iI M.cn), .int (iI M.en), .int (iI M.pr), .double (dM M.ko (-3)), .ref (b 1), .ref (b 2), .ref (b 3), .ref (b 4), .ref (b 5), .ref (b 6), .ref (b 7), .ref (b 8), .ref (b 9), .ref (b 10), .ref (b 11), .ref (b 12), .ref (b 13), .ref (b 14), .ref (b 15), .int (iI p2), .ref (b 16), .ref (b 17), .ref (b 18), .ref (b 19), .ref (b 20), .ref (b 21), .ref (b 22)]))] H := hP
              have hD : va_D (aW [(r, eI aC 1200 f), (b 0, .inr (6, [.int (iI er), .int (iI M.rw), .int (iI M.cn), .int (iI M.en), .int (iI M.pr), .double (dM M.ko (-3)), .ref (b 1), .ref (b 2), .ref (b 3), .ref (b 4), .ref (b 5), .ref (b 6), .ref (b 7), .ref (b 8), .ref (b 9), .ref (b 10), .ref (b 11), .ref (b 12), .ref (b 13), .ref (b 14), .ref (b 15), .int (iI p2), .ref (b 16), .ref (b 17), .ref (b 18), .ref (b 19), .ref (b 20), .ref (b 21), .ref (b 22)]))]) [(r, eI aC 1200 (updI (updI (updI f 0 (P % 65536)) (0 + 1) ((P / 65536) % 65536)) (0 + 1 + 1) (((P / 65536) / 65536) % 65536))), (b 0, .inr (6, [.int (iI er), .int (iI M.rw), .int (iI M.cn), .int (iI M.en), .int (iI M.pr), .double (dM M.ko (-3)), .ref (b 1), .ref (b 2), .ref (b 3), .ref (b 4), .ref (b 5), .ref (b 6), .ref (b 7), .ref (b 8), .ref (b 9), .ref (b 10), .ref (b 11), .ref (b 12), .ref (b 13), .ref (b 14), .ref (b 15), .int (iI p2), .ref (b 16), .ref (b 17), .ref (b 18), .ref (b 19), .ref (b 20), .ref (b 21), .ref (b 22)]))] := hD
              refine lv_lload hx hb d_Mo_exact_114 (lv_at hl 1 rfl) ?_
              refine lv_bipush (v := iI 16) hx hb d_Mo_exact_116 (by decide +kernel) ?_
              refine x_lshr hx hb d_Mo_exact_118 (by omega) (by omega) ?_
              refine x_topl _ (((P / 65536) / 65536) / 65536) rfl ?_
              refine lv_lstore (lv' := [(7, .long (lI (((P / 65536) / 65536) / 65536))), (9, .int (iI (0 + 1 + 1 + 1))), (6, .int (iI (t - u))), (4, .double (dM k (q + (-t) + u))), (0, .ref (b 0)), (3, .ref r)]) hx hb d_Mo_exact_119 hl (by decide) rfl (fun ls hl => ?_)
              refine lv_goto (tgt := 93) hx hb d_Mo_exact_121 (by decide) ?_
              refine lv_lload hx hb d_Mo_exact_93 (lv_at hl 0 rfl) ?_
              refine lv_lconst (v := lI 0) hx hb d_Mo_exact_95 (by decide +kernel) ?_
              refine x_lcmp_eq (tgt := 124) hx hb d_Mo_exact_96 d_Mo_exact_97 (by decide) (by omega) (by omega) (fun c_96 => (by exfalso; omega)) (fun c_96 => ?_)
              refine lv_aload_n hx hb d_Mo_exact_100 rfl (lv_at hl 5 rfl) ?_
              refine lv_iload hx hb d_Mo_exact_101 (lv_at hl 1 rfl) ?_
              refine lv_iinc (v := iI (0 + 1 + 1 + 1 + 1)) (lv' := [(9, .int (iI (0 + 1 + 1 + 1 + 1))), (7, .long (lI (((P / 65536) / 65536) / 65536))), (6, .int (iI (t - u))), (4, .double (dM k (q + (-t) + u))), (0, .ref (b 0)), (3, .ref r)]) hx hb d_Mo_exact_103 hl (k := 1) rfl (iI_add _ _) (by decide) rfl (fun ls hl => ?_)
              refine lv_lload hx hb d_Mo_exact_106 (lv_at hl 1 rfl) ?_
              refine x_ldc2 hx hb 65535 (by decide +kernel) hown (hts _ wk_Mo_82) d_Mo_exact_108 ?_
              refine x_land (v := ((((P / 65536) / 65536) / 65536) % 65536)) hx hb d_Mo_exact_111 (lI_m16 _) ?_
              refine x_l2i hx hb d_Mo_exact_112 ?_
              refine x_iast hx hb hK hP hD hS 0 rfl (by omega) (by decide) d_Mo_exact_113 (fun H locs hP hD hS => ?_)
              have hP : va_P D CL [(r, eI aC 1200 (updI (updI (updI (updI f 0 (P % 65536)) (0 + 1) ((P / 65536) % 65536)) (0 + 1 + 1) (((P / 65536) / 65536) % 65536)) (0 + 1 + 1 + 1) ((((P / 65536) / 65536) / 65536) % 65536))), (b 0, .inr (6, [.int (iI er), .int (iI M.rw), .int (iI M.cn), .int (iI M.en), .int (iI M.pr), .double (dM M.ko (-3)), .ref (b 1), .ref (b 2), .ref (b 3), .ref (b 4), .ref (b 5), .ref (b 6), .ref (b 7), .ref (b 8), .ref (b 9), .ref (b 10), .ref (b 11), .ref (b 12), .ref (b 13), .ref (b 14), .ref (b 15), .int (iI p2), .ref (b 16), .ref (b 17), .ref (b 18), .ref (b 19), .ref (b 20), .ref (b 21), .ref (b 22)]))] H := hP
              have hD : va_D (aW [(r, eI aC 1200 f), (b 0, .inr (6, [.int (iI er), .int (iI M.rw), .int (iI M.cn), .int (iI M.en), .int (iI M.pr), .double (dM M.ko (-3)), .ref (b 1), .ref (b 2), .ref (b 3), .ref (b 4), .ref (b 5), .ref (b 6), .ref (b 7), .ref (b 8), .ref (b 9), .ref (b 10), .ref (b 11), .ref (b 12), .ref (b 13), .ref (b 14), .ref (b 15), .int (iI p2), .ref (b 16), .ref (b 17), .ref (b 18), .ref (b 19), .ref (b 20), .ref (b 21), .ref (b 22)]))]) [(r, eI aC 1200 (updI (updI (updI (updI f 0 (P % 65536)) (0 + 1) ((P / 65536) % 65536)) (0 + 1 + 1) (((P / 65536) / 65536) % 65536)) (0 + 1 + 1 + 1) ((((P / 65536) / 65536) / 65536) % 65536))), (b 0, .inr (6, [.int (iI er), .int (iI M.rw), .int (iI M.cn), .int (iI M.en), .int (iI M.pr), .double (dM M.ko (-3)), .ref (b 1), .ref (b 2), .ref (b 3), .ref (b 4), .ref (b 5), .ref (b 6), .ref (b 7), .ref (b 8), .ref (b 9), .ref (b 10), .ref (b 11), .ref (b 12), .ref (b 13), .ref (b 14), .ref (b 15), .int (iI p2), .ref (b 16), .ref (b 17), .ref (b 18), .ref (b 19), .ref (b 20), .ref (b 21), .ref (b 22)]))] := hD
              refine lv_lload hx hb d_Mo_exact_114 (lv_at hl 1 rfl) ?_
              refine lv_bipush (v := iI 16) hx hb d_Mo_exact_116 (by decide +kernel) ?_
              refine x_lshr hx hb d_Mo_exact_118 (by omega) (by omega) ?_
              refine x_topl _ ((((P / 65536) / 65536) / 65536) / 65536) rfl ?_
              refine lv_lstore (lv' := [(7, .long (lI ((((P / 65536) / 65536) / 65536) / 65536))), (9, .int (iI (0 + 1 + 1 + 1 + 1))), (6, .int (iI (t - u))), (4, .double (dM k (q + (-t) + u))), (0, .ref (b 0)), (3, .ref r)]) hx hb d_Mo_exact_119 hl (by decide) rfl (fun ls hl => ?_)
              refine lv_goto (tgt := 93) hx hb d_Mo_exact_121 (by decide) ?_
              refine lv_lload hx hb d_Mo_exact_93 (lv_at hl 0 rfl) ?_
              refine lv_lconst (v := lI 0) hx hb d_Mo_exact_95 (by decide +kernel) ?_
              refine x_lcmp_eq (tgt := 124) hx hb d_Mo_exact_96 d_Mo_exact_97 (by decide) (by omega) (by omega) (fun c_96 => ?_) (fun c_96 => (by exfalso; omega))
              refine lv_aload_n hx hb d_Mo_exact_124 rfl (lv_at hl 4 rfl) ?_
              refine lv_iload hx hb d_Mo_exact_125 (lv_at hl 2 rfl) ?_
              refine va_put (D := D) (ci := 6) (v := .int (iI (t - u))) (ty := .int) (C := R_Mo) (T := F_Mo) (N := 29) hx hb hts i_Mo t_Mo t_Mo_ok n_Mo hown hK hP hD hS 1 rfl rfl 21 (by decide) (hts _ wf_Mo_89) (fun _ h9 => h9) rfl (by decide +kernel) rfl rfl (Nat.le_of_ble_eq_true rfl) d_Mo_exact_127 (fun H locs hP hD hS => ?_)
              have hP : va_P D CL [(r, eI aC 1200 (updI (updI (updI (updI f 0 (P % 65536)) (0 + 1) ((P / 65536) % 65536)) (0 + 1 + 1) (((P / 65536) / 65536) % 65536)) (0 + 1 + 1 + 1) ((((P / 65536) / 65536) / 65536) % 65536))), (b 0, .inr (6, [.int (iI er), .int (iI M.rw), .int (iI M.cn), .int (iI M.en), .int (iI M.pr), .double (dM M.ko (-3)), .ref (b 1), .ref (b 2), .ref (b 3), .ref (b 4), .ref (b 5), .ref (b 6), .ref (b 7), .ref (b 8), .ref (b 9), .ref (b 10), .ref (b 11), .ref (b 12), .ref (b 13), .ref (b 14), .ref (b 15), .int (iI (t - u)), .ref (b 16), .ref (b 17), .ref (b 18), .ref (b 19), .ref (b 20), .ref (b 21), .ref (b 22)]))] H := hP
              have hD : va_D (aW [(r, eI aC 1200 f), (b 0, .inr (6, [.int (iI er), .int (iI M.rw), .int (iI M.cn), .int (iI M.en), .int (iI M.pr), .double (dM M.ko (-3)), .ref (b 1), .ref (b 2), .ref (b 3), .ref (b 4), .ref (b 5), .ref (b 6), .ref (b 7), .ref (b 8), .ref (b 9), .ref (b 10), .ref (b 11), .ref (b 12), .ref (b 13), .ref (b 14), .ref (b 15), .int (iI p2), .ref (b 16), .ref (b 17), .ref (b 18), .ref (b 19), .ref (b 20), .ref (b 21), .ref (b 22)]))]) [(r, eI aC 1200 (updI (updI (updI (updI f 0 (P % 65536)) (0 + 1) ((P / 65536) % 65536)) (0 + 1 + 1) (((P / 65536) / 65536) % 65536)) (0 + 1 + 1 + 1) ((((P / 65536) / 65536) / 65536) % 65536))), (b 0, .inr (6, [.int (iI er), .int (iI M.rw), .int (iI M.cn), .int (iI M.en), .int (iI M.pr), .double (dM M.ko (-3)), .ref (b 1), .ref (b 2), .ref (b 3), .ref (b 4), .ref (b 5), .ref (b 6), .ref (b 7), .ref (b 8), .ref (b 9), .ref (b 10), .ref (b 11), .ref (b 12), .ref (b 13), .ref (b 14), .ref (b 15), .int (iI (t - u)), .ref (b 16), .ref (b 17), .ref (b 18), .ref (b 19), .ref (b 20), .ref (b 21), .ref (b 22)]))] := hD
              refine lv_iload hx hb d_Mo_exact_130 (lv_at hl 1 rfl) ?_
              exact x_iret hx hb hr hlocks hQ (⟨by unfold ex4; rw [if_neg (by omega)]; rfl, updI (updI (updI (updI f 0 (P % 65536)) (0 + 1) ((P / 65536) % 65536)) (0 + 1 + 1) (((P / 65536) / 65536) % 65536)) (0 + 1 + 1 + 1) ((((P / 65536) / 65536) / 65536) % 65536), show [(r, eI aC 1200 (updI (updI (updI (updI f 0 (P % 65536)) (0 + 1) ((P / 65536) % 65536)) (0 + 1 + 1) (((P / 65536) / 65536) % 65536)) (0 + 1 + 1 + 1) ((((P / 65536) / 65536) / 65536) % 65536))), (b 0, .inr (6, [.int (iI er), .int (iI M.rw), .int (iI M.cn), .int (iI M.en), .int (iI M.pr), .double (dM M.ko (-3)), .ref (b 1), .ref (b 2), .ref (b 3), .ref (b 4), .ref (b 5), .ref (b 6), .ref (b 7), .ref (b 8), .ref (b 9), .ref (b 10), .ref (b 11), .ref (b 12), .ref (b 13), .ref (b 14), .ref (b 15), .int (iI (t - u)), .ref (b 16), .ref (b 17), .ref (b 18), .ref (b 19), .ref (b 20), .ref (b 21), .ref (b 22)]))] = _ by rw [if_neg (by omega), show t - u = q - nt k by omega], by unfold ex4; rw [if_neg (by omega)]; exact ex_fin (by rw [← hPd]; rw [show (k.natAbs : Int) = k by omega]) (by omega)⟩) rfl hP hS d_Mo_exact_132
            · have e_59 : ¬ (nt k : Int) ≤ q + (-t) + u := fun z => c_59 ((nt_le (k := k) (by omega) (by omega) (by omega)).mpr z)
              refine lv_iload hx hb d_Mo_exact_63 (lv_at hl 0 rfl) ?_
              refine lv_sipush (v := iI (-1074)) hx hb d_Mo_exact_65 (by decide +kernel) ?_
              refine x_icmp_le (tgt := 85) hx hb d_Mo_exact_68 (by decide) (by omega) (by omega) (fun c_68 => (by exfalso; omega)) (fun c_68 => ?_)
              refine lv_dload hx hb d_Mo_exact_71 (lv_at hl 1 rfl) ?_
              refine x_ldc2d hx hb 1 1 (by decide +kernel) hown (hts _ wk_Mo_98) d_Mo_exact_73 ?_
              refine x_dmul1 hx hb d_Mo_exact_76 (by unfold dOk; omega) (by unfold dOk; omega) (by unfold dOk; omega) ?_
              refine lv_dstore (lv' := [(4, .double (dM k ((q + (-t) + u) + 1))), (6, .int (iI (t - u))), (0, .ref (b 0)), (3, .ref r)]) hx hb d_Mo_exact_77 hl (by decide) rfl (fun ls hl => ?_)
              refine lv_iinc (v := iI (t - u + (-1))) (lv' := [(6, .int (iI (t - u + (-1)))), (4, .double (dM k ((q + (-t) + u) + 1))), (0, .ref (b 0)), (3, .ref r)]) hx hb d_Mo_exact_79 hl (k := 1) rfl (iI_add _ _) (by decide) rfl (fun ls hl => ?_)
              refine lv_goto (tgt := 54) hx hb d_Mo_exact_82 (by decide) ?_
              exact ih54 (u + 1) _ _ ls (by omega) (by omega) hP hD hS (by rw [show (t - (u + 1) : Int) = t - u + (-1) by omega, show (q + (-t) + (u + 1) : Int) = (q + (-t) + u) + 1 by omega]; exact lv_sub hl [0, 1, 2, 3] rfl)
        exact L54 _ 0 _ _ ls (by omega) (n_lt _) hP hD hS (by rw [show (t - 0 : Int) = t by omega, show (q + (-t) + 0 : Int) = q + (-t) by omega]; exact lv_sub hl [0, 1, 2, 3] rfl)
      · have e_36 := (nt_ge (k := k) (q := q + (-t)) (by omega) (by omega) (by omega)).mp (by omega)
        refine lv_dload hx hb d_Mo_exact_40 (lv_at hl 1 rfl) ?_
        refine x_ldc2d hx hb 1 (-1) (by decide +kernel) hown (hts _ wk_Mo_94) d_Mo_exact_42 ?_
        refine x_dmul1 hx hb d_Mo_exact_45 (by unfold dOk; omega) (by unfold dOk; omega) (by unfold dOk; omega) ?_
        refine lv_dstore (lv' := [(4, .double (dM k ((q + (-t)) + (-1)))), (6, .int (iI t)), (0, .ref (b 0)), (3, .ref r)]) hx hb d_Mo_exact_46 hl (by decide) rfl (fun ls hl => ?_)
        refine lv_iinc (v := iI (t + 1)) (lv' := [(6, .int (iI (t + 1))), (4, .double (dM k ((q + (-t)) + (-1)))), (0, .ref (b 0)), (3, .ref r)]) hx hb d_Mo_exact_48 hl (k := 1) rfl (iI_add _ _) (by decide) rfl (fun ls hl => ?_)
        refine lv_goto (tgt := 31) hx hb d_Mo_exact_51 (by decide) ?_
        exact ih (t + 1) _ _ ls (by omega) (by omega) hP hD hS (by rw [show (q + (-(t + 1)) : Int) = (q + (-t)) + (-1) by omega]; exact lv_sub hl [0, 1, 2, 3] rfl)
  exact L31 _ 0 _ _ ls (by omega) (n_lt _) hP hD hS (by rw [show (q + (-0) : Int) = q by omega]; exact lv_sub hl [0, 1, 2, 4] rfl)

set_option maxHeartbeats 4000000 in
set_option maxRecDepth 100000 in
theorem c_Mo_exact_n (l : Launch) (D : va_G) (aC : Nat → ClassId) (b : Nat → Nat) (M : MS) (er p2 : Int) (r : Nat) (f : Int → Int) (k q : Int) (hk : -4294967296 < k ∧ k < 4294967296) (hq : -700 ≤ q ∧ q ≤ 700) (hs : k < 0) : CT l D aC y_Mo_exact (rd 0 0) [.ref (b 0), .double (dM k q), .ref r] [(r, eI aC 1200 f), (b 0, .inr (6, [.int (iI er), .int (iI M.rw), .int (iI M.cn), .int (iI M.en), .int (iI M.pr), .double (dM M.ko (-3)), .ref (b 1), .ref (b 2), .ref (b 3), .ref (b 4), .ref (b 5), .ref (b 6), .ref (b 7), .ref (b 8), .ref (b 9), .ref (b 10), .ref (b 11), .ref (b 12), .ref (b 13), .ref (b 14), .ref (b 15), .int (iI p2), .ref (b 16), .ref (b 17), .ref (b 18), .ref (b 19), .ref (b 20), .ref (b 21), .ref (b 22)]))] (fun v w => v = some (.int (iI (ex4 k))) ∧ ∃ g : Int → Int, w = [(r, eI aC 1200 g), (b 0, .inr (6, [.int (iI er), .int (iI M.rw), .int (iI M.cn), .int (iI M.en), .int (iI M.pr), .double (dM M.ko (-3)), .ref (b 1), .ref (b 2), .ref (b 3), .ref (b 4), .ref (b 5), .ref (b 6), .ref (b 7), .ref (b 8), .ref (b 9), .ref (b 10), .ref (b 11), .ref (b 12), .ref (b 13), .ref (b 14), .ref (b 15), .int (iI (if k = 0 then 0 else q - nt k)), .ref (b 16), .ref (b 17), .ref (b 18), .ref (b 19), .ref (b 20), .ref (b 21), .ref (b 22)]))] ∧ dg 16 g (ex4 k).toNat = (k.natAbs : Int) * 2 ^ nt k ∧ ∀ j : Int, 0 ≤ j → j < ex4 k → 0 ≤ g j ∧ g j < 65536) := by
  refine CT.of (cc := b_Mo_exact) (maxL := 10) (ret := (some .int)) (by decide +kernel) k_Mo_exact (Nat.le_of_ble_eq_true rfl) ?_
  intro p e s m below meth c Q S hr hlocks hQ hK hN hP hD hS ls hl
  obtain ⟨hx, hb, hml, hown, hts⟩ := id S
  have hl : lv_has ls 10 [(0, .ref (b 0)), (1, .double (dM k q)), (3, .ref r)] := hl
  have hnt := nt_r (k := -k) (by omega) (by omega)
  refine lv_dload_n hx hb d_Mo_exact_0 rfl (lv_at hl 1 rfl) ?_
  refine x_dconst0 hx hb d_Mo_exact_1 ?_
  refine x_dcmp_ge (tgt := 11) hx hb d_Mo_exact_2 d_Mo_exact_3 (by decide) (by unfold dOk; omega) (by unfold dOk; omega) (fun c_2 => (absurd (zs_ge.mp c_2) (by omega))) (fun c_2 => ?_)
  refine lv_dload_n hx hb d_Mo_exact_6 rfl (lv_at hl 1 rfl) ?_
  refine x_dneg hx hb d_Mo_exact_7 (by unfold dOk; omega) (by omega) ?_
  refine lv_goto (tgt := 12) hx hb d_Mo_exact_8 (by decide) ?_
  refine lv_dstore (lv' := [(4, .double (dM (-k) q)), (0, .ref (b 0)), (1, .double (dM k q)), (3, .ref r)]) hx hb d_Mo_exact_12 hl (by decide) rfl (fun ls hl => ?_)
  refine lv_iconst (v := iI 0) hx hb d_Mo_exact_14 rfl ?_
  refine lv_istore (lv' := [(6, .int (iI 0)), (4, .double (dM (-k) q)), (0, .ref (b 0)), (1, .double (dM k q)), (3, .ref r)]) hx hb d_Mo_exact_15 hl (by decide) rfl (fun ls hl => ?_)
  refine lv_dload hx hb d_Mo_exact_17 (lv_at hl 1 rfl) ?_
  refine x_dconst0 hx hb d_Mo_exact_19 ?_
  refine x_dcmp_ne (tgt := 31) hx hb d_Mo_exact_20 d_Mo_exact_21 (by decide) (by unfold dOk; omega) (by unfold dOk; omega) (fun c_20 => ?_) (fun c_20 => (absurd (zs_eq.mp c_20) (by omega)))
  have L31 : ∀ (nn : Nat) (t : Int) (H : Heap) (locs : List Loc) (ls : Array Slot), (0 ≤ t ∧ (t ≤ q - nt (-k) ∨ t = 0)) → 2000 - t < (nn : Int) → va_P D CL [(r, eI aC 1200 f), (b 0, .inr (6, [.int (iI er), .int (iI M.rw), .int (iI M.cn), .int (iI M.en), .int (iI M.pr), .double (dM M.ko (-3)), .ref (b 1), .ref (b 2), .ref (b 3), .ref (b 4), .ref (b 5), .ref (b 6), .ref (b 7), .ref (b 8), .ref (b 9), .ref (b 10), .ref (b 11), .ref (b 12), .ref (b 13), .ref (b 14), .ref (b 15), .int (iI p2), .ref (b 16), .ref (b 17), .ref (b 18), .ref (b 19), .ref (b 20), .ref (b 21), .ref (b 22)]))] H → va_D (aW [(r, eI aC 1200 f), (b 0, .inr (6, [.int (iI er), .int (iI M.rw), .int (iI M.cn), .int (iI M.en), .int (iI M.pr), .double (dM M.ko (-3)), .ref (b 1), .ref (b 2), .ref (b 3), .ref (b 4), .ref (b 5), .ref (b 6), .ref (b 7), .ref (b 8), .ref (b 9), .ref (b 10), .ref (b 11), .ref (b 12), .ref (b 13), .ref (b 14), .ref (b 15), .int (iI p2), .ref (b 16), .ref (b 17), .ref (b 18), .ref (b 19), .ref (b 20), .ref (b 21), .ref (b 22)]))]) [(r, eI aC 1200 f), (b 0, .inr (6, [.int (iI er), .int (iI M.rw), .int (iI M.cn), .int (iI M.en), .int (iI M.pr), .double (dM M.ko (-3)), .ref (b 1), .ref (b 2), .ref (b 3), .ref (b 4), .ref (b 5), .ref (b 6), .ref (b 7), .ref (b 8), .ref (b 9), .ref (b 10), .ref (b 11), .ref (b 12), .ref (b 13), .ref (b 14), .ref (b 15), .int (iI p2), .ref (b 16), .ref (b 17), .ref (b 18), .ref (b 19), .ref (b 20), .ref (b 21), .ref (b 22)]))] → va_S (aW [(r, eI aC 1200 f), (b 0, .inr (6, [.int (iI er), .int (iI M.rw), .int (iI M.cn), .int (iI M.en), .int (iI M.pr), .double (dM M.ko (-3)), .ref (b 1), .ref (b 2), .ref (b 3), .ref (b 4), .ref (b 5), .ref (b 6), .ref (b 7), .ref (b 8), .ref (b 9), .ref (b 10), .ref (b 11), .ref (b 12), .ref (b 13), .ref (b 14), .ref (b 15), .int (iI p2), .ref (b 16), .ref (b 17), .ref (b 18), .ref (b 19), .ref (b 20), .ref (b 21), .ref (b 22)]))]) s.heap H locs → lv_has ls 10 [(6, .int (iI t)), (4, .double (dM (-k) (q + (-t)))), (0, .ref (b 0)), (3, .ref r)] → W p l e (rd 0 0) s m ([.ref (b 0), .double (dM k q), .ref r]).toArray below meth c H locs 0 0 Q (F0 m 31 ls []) := by
    intro nn
    induction nn with
    | zero => intro t H locs ls ht hnn; exact absurd hnn (by omega)
    | succ nn ih =>
      intro t H locs ls ht hnn hP hD hS hl
      refine lv_dload hx hb d_Mo_exact_31 (lv_at hl 1 rfl) ?_
      refine x_ldc2d hx hb 1 53 (by decide +kernel) hown (hts _ wk_Mo_92) d_Mo_exact_33 ?_
      refine x_dcmp_lt (tgt := 54) hx hb d_Mo_exact_36 d_Mo_exact_37 (by decide) (by unfold dOk; omega) (by unfold dOk; omega) (fun c_36 => ?_) (fun c_36 => ?_)
      · have e_36 : ¬ (nt (-k) : Int) < q + (-t) := fun z => absurd ((nt_ge (k := -k) (q := q + (-t)) (by omega) (by omega) (by omega)).mpr z) (by omega)
        have L54 : ∀ (nn : Nat) (u : Int) (H : Heap) (locs : List Loc) (ls : Array Slot), (0 ≤ u ∧ (u ≤ nt (-k) - (q - t) ∨ u = 0)) → 2000 - u < (nn : Int) → va_P D CL [(r, eI aC 1200 f), (b 0, .inr (6, [.int (iI er), .int (iI M.rw), .int (iI M.cn), .int (iI M.en), .int (iI M.pr), .double (dM M.ko (-3)), .ref (b 1), .ref (b 2), .ref (b 3), .ref (b 4), .ref (b 5), .ref (b 6), .ref (b 7), .ref (b 8), .ref (b 9), .ref (b 10), .ref (b 11), .ref (b 12), .ref (b 13), .ref (b 14), .ref (b 15), .int (iI p2), .ref (b 16), .ref (b 17), .ref (b 18), .ref (b 19), .ref (b 20), .ref (b 21), .ref (b 22)]))] H → va_D (aW [(r, eI aC 1200 f), (b 0, .inr (6, [.int (iI er), .int (iI M.rw), .int (iI M.cn), .int (iI M.en), .int (iI M.pr), .double (dM M.ko (-3)), .ref (b 1), .ref (b 2), .ref (b 3), .ref (b 4), .ref (b 5), .ref (b 6), .ref (b 7), .ref (b 8), .ref (b 9), .ref (b 10), .ref (b 11), .ref (b 12), .ref (b 13), .ref (b 14), .ref (b 15), .int (iI p2), .ref (b 16), .ref (b 17), .ref (b 18), .ref (b 19), .ref (b 20), .ref (b 21), .ref (b 22)]))]) [(r, eI aC 1200 f), (b 0, .inr (6, [.int (iI er), .int (iI M.rw), .int (iI M.cn), .int (iI M.en), .int (iI M.pr), .double (dM M.ko (-3)), .ref (b 1), .ref (b 2), .ref (b 3), .ref (b 4), .ref (b 5), .ref (b 6), .ref (b 7), .ref (b 8), .ref (b 9), .ref (b 10), .ref (b 11), .ref (b 12), .ref (b 13), .ref (b 14), .ref (b 15), .int (iI p2), .ref (b 16), .ref (b 17), .ref (b 18), .ref (b 19), .ref (b 20), .ref (b 21), .ref (b 22)]))] → va_S (aW [(r, eI aC 1200 f), (b 0, .inr (6, [.int (iI er), .int (iI M.rw), .int (iI M.cn), .int (iI M.en), .int (iI M.pr), .double (dM M.ko (-3)), .ref (b 1), .ref (b 2), .ref (b 3), .ref (b 4), .ref (b 5), .ref (b 6), .ref (b 7), .ref (b 8), .ref (b 9), .ref (b 10), .ref (b 11), .ref (b 12), .ref (b 13), .ref (b 14), .ref (b 15), .int (iI p2), .ref (b 16), .ref (b 17), .ref (b 18), .ref (b 19), .ref (b 20), .ref (b 21), .ref (b 22)]))]) s.heap H locs → lv_has ls 10 [(6, .int (iI (t - u))), (4, .double (dM (-k) (q + (-t) + u))), (0, .ref (b 0)), (3, .ref r)] → W p l e (rd 0 0) s m ([.ref (b 0), .double (dM k q), .ref r]).toArray below meth c H locs 0 0 Q (F0 m 54 ls []) := by
          intro nn54
          induction nn54 with
          | zero => intro u H locs ls hu hnn54; exact absurd hnn54 (by omega)
          | succ nn54 ih54 =>
            intro u H locs ls hu hnn54 hP hD hS hl
            refine lv_dload hx hb d_Mo_exact_54 (lv_at hl 1 rfl) ?_
            refine x_ldc2d hx hb 1 52 (by decide +kernel) hown (hts _ wk_Mo_96) d_Mo_exact_56 ?_
            refine x_dcmp_ge (tgt := 85) hx hb d_Mo_exact_59 d_Mo_exact_60 (by decide) (by unfold dOk; omega) (by unfold dOk; omega) (fun c_59 => ?_) (fun c_59 => ?_)
            · have e_59 := (nt_le (k := -k) (by omega) (by omega) (by omega)).mp c_59
              refine lv_dload hx hb d_Mo_exact_85 (lv_at hl 1 rfl) ?_
              have hPn := nt_m (k := -k) (by omega) (by omega)
              refine x_topd (-k) (q + (-t) + u) (-k) (nt (-k) : Int) (by rw [show q + (-t) + u = (nt (-k) : Int) by omega]) ?_
              refine x_d2l hx hb d_Mo_exact_87 (by unfold dOk; omega) (by omega) ?_
              obtain ⟨P, hPd⟩ : ∃ z : Int, (-k) * 2 ^ (nt (-k)) = z := ⟨_, rfl⟩
              refine x_topl _ P hPd ?_
              rw [hPd] at hPn
              refine lv_lstore (lv' := [(7, .long (lI P)), (6, .int (iI (t - u))), (4, .double (dM (-k) (q + (-t) + u))), (0, .ref (b 0)), (3, .ref r)]) hx hb d_Mo_exact_88 hl (by decide) rfl (fun ls hl => ?_)
              refine lv_iconst (v := iI 0) hx hb d_Mo_exact_90 rfl ?_
              refine lv_istore (lv' := [(9, .int (iI 0)), (7, .long (lI P)), (6, .int (iI (t - u))), (4, .double (dM (-k) (q + (-t) + u))), (0, .ref (b 0)), (3, .ref r)]) hx hb d_Mo_exact_91 hl (by decide) rfl (fun ls hl => ?_)
              refine lv_lload hx hb d_Mo_exact_93 (lv_at hl 1 rfl) ?_
              refine lv_lconst (v := lI 0) hx hb d_Mo_exact_95 (by decide +kernel) ?_
              refine x_lcmp_eq (tgt := 124) hx hb d_Mo_exact_96 d_Mo_exact_97 (by decide) (by omega) (by omega) (fun c_96 => (by exfalso; omega)) (fun c_96 => ?_)
              refine lv_aload_n hx hb d_Mo_exact_100 rfl (lv_at hl 5 rfl) ?_
              refine lv_iload hx hb d_Mo_exact_101 (lv_at hl 0 rfl) ?_
              refine lv_iinc (v := iI (0 + 1)) (lv' := [(9, .int (iI (0 + 1))), (7, .long (lI P)), (6, .int (iI (t - u))), (4, .double (dM (-k) (q + (-t) + u))), (0, .ref (b 0)), (3, .ref r)]) hx hb d_Mo_exact_103 hl (k := 0) rfl (iI_add _ _) (by decide) rfl (fun ls hl => ?_)
              refine lv_lload hx hb d_Mo_exact_106 (lv_at hl 1 rfl) ?_
              refine x_ldc2 hx hb 65535 (by decide +kernel) hown (hts _ wk_Mo_82) d_Mo_exact_108 ?_
              refine x_land (v := (P % 65536)) hx hb d_Mo_exact_111 (lI_m16 _) ?_
              refine x_l2i hx hb d_Mo_exact_112 ?_
              refine x_iast hx hb hK hP hD hS 0 rfl (by omega) (by decide) d_Mo_exact_113 (fun H locs hP hD hS => ?_)
              have hP : va_P D CL [(r, eI aC 1200 (updI f 0 (P % 65536))), (b 0, .inr (6, [.int (iI er), .int (iI M.rw), .int (iI M.cn), .int (iI M.en), .int (iI M.pr), .double (dM M.ko (-3)), .ref (b 1), .ref (b 2), .ref (b 3), .ref (b 4), .ref (b 5), .ref (b 6), .ref (b 7), .ref (b 8), .ref (b 9), .ref (b 10), .ref (b 11), .ref (b 12), .ref (b 13), .ref (b 14), .ref (b 15), .int (iI p2), .ref (b 16), .ref (b 17), .ref (b 18), .ref (b 19), .ref (b 20), .ref (b 21), .ref (b 22)]))] H := hP
              have hD : va_D (aW [(r, eI aC 1200 f), (b 0, .inr (6, [.int (iI er), .int (iI M.rw), .int (iI M.cn), .int (iI M.en), .int (iI M.pr), .double (dM M.ko (-3)), .ref (b 1), .ref (b 2), .ref (b 3), .ref (b 4), .ref (b 5), .ref (b 6), .ref (b 7), .ref (b 8), .ref (b 9), .ref (b 10), .ref (b 11), .ref (b 12), .ref (b 13), .ref (b 14), .ref (b 15), .int (iI p2), .ref (b 16), .ref (b 17), .ref (b 18), .ref (b 19), .ref (b 20), .ref (b 21), .ref (b 22)]))]) [(r, eI aC 1200 (updI f 0 (P % 65536))), (b 0, .inr (6, [.int (iI er), .int (iI M.rw), .int (iI M.cn), .int (iI M.en), .int (iI M.pr), .double (dM M.ko (-3)), .ref (b 1), .ref (b 2), .ref (b 3), .ref (b 4), .ref (b 5), .ref (b 6), .ref (b 7), .ref (b 8), .ref (b 9), .ref (b 10), .ref (b 11), .ref (b 12), .ref (b 13), .ref (b 14), .ref (b 15), .int (iI p2), .ref (b 16), .ref (b 17), .ref (b 18), .ref (b 19), .ref (b 20), .ref (b 21), .ref (b 22)]))] := hD
              refine lv_lload hx hb d_Mo_exact_114 (lv_at hl 1 rfl) ?_
              refine lv_bipush (v := iI 16) hx hb d_Mo_exact_116 (by decide +kernel) ?_
              refine x_lshr hx hb d_Mo_exact_118 (by omega) (by omega) ?_
              refine x_topl _ (P / 65536) rfl ?_
              refine lv_lstore (lv' := [(7, .long (lI (P / 65536))), (9, .int (iI (0 + 1))), (6, .int (iI (t - u))), (4, .double (dM (-k) (q + (-t) + u))), (0, .ref (b 0)), (3, .ref r)]) hx hb d_Mo_exact_119 hl (by decide) rfl (fun ls hl => ?_)
              refine lv_goto (tgt := 93) hx hb d_Mo_exact_121 (by decide) ?_
              refine lv_lload hx hb d_Mo_exact_93 (lv_at hl 0 rfl) ?_
              refine lv_lconst (v := lI 0) hx hb d_Mo_exact_95 (by decide +kernel) ?_
              refine x_lcmp_eq (tgt := 124) hx hb d_Mo_exact_96 d_Mo_exact_97 (by decide) (by omega) (by omega) (fun c_96 => (by exfalso; omega)) (fun c_96 => ?_)
              refine lv_aload_n hx hb d_Mo_exact_100 rfl (lv_at hl 5 rfl) ?_
              refine lv_iload hx hb d_Mo_exact_101 (lv_at hl 1 rfl) ?_
              refine lv_iinc (v := iI (0 + 1 + 1)) (lv' := [(9, .int (iI (0 + 1 + 1))), (7, .long (lI (P / 65536))), (6, .int (iI (t - u))), (4, .double (dM (-k) (q + (-t) + u))), (0, .ref (b 0)), (3, .ref r)]) hx hb d_Mo_exact_103 hl (k := 1) rfl (iI_add _ _) (by decide) rfl (fun ls hl => ?_)
              refine lv_lload hx hb d_Mo_exact_106 (lv_at hl 1 rfl) ?_
              refine x_ldc2 hx hb 65535 (by decide +kernel) hown (hts _ wk_Mo_82) d_Mo_exact_108 ?_
              refine x_land (v := ((P / 65536) % 65536)) hx hb d_Mo_exact_111 (lI_m16 _) ?_
              refine x_l2i hx hb d_Mo_exact_112 ?_
              refine x_iast hx hb hK hP hD hS 0 rfl (by omega) (by decide) d_Mo_exact_113 (fun H locs hP hD hS => ?_)
              have hP : va_P D CL [(r, eI aC 1200 (updI (updI f 0 (P % 65536)) (0 + 1) ((P / 65536) % 65536))), (b 0, .inr (6, [.int (iI er), .int (iI M.rw), .int (iI M.cn), .int (iI M.en), .int (iI M.pr), .double (dM M.ko (-3)), .ref (b 1), .ref (b 2), .ref (b 3), .ref (b 4), .ref (b 5), .ref (b 6), .ref (b 7), .ref (b 8), .ref (b 9), .ref (b 10), .ref (b 11), .ref (b 12), .ref (b 13), .ref (b 14), .ref (b 15), .int (iI p2), .ref (b 16), .ref (b 17), .ref (b 18), .ref (b 19), .ref (b 20), .ref (b 21), .ref (b 22)]))] H := hP
              have hD : va_D (aW [(r, eI aC 1200 f), (b 0, .inr (6, [.int (iI er), .int (iI M.rw), .int (iI M.cn), .int (iI M.en), .int (iI M.pr), .double (dM M.ko (-3)), .ref (b 1), .ref (b 2), .ref (b 3), .ref (b 4), .ref (b 5), .ref (b 6), .ref (b 7), .ref (b 8), .ref (b 9), .ref (b 10), .ref (b 11), .ref (b 12), .ref (b 13), .ref (b 14), .ref (b 15), .int (iI p2), .ref (b 16), .ref (b 17), .ref (b 18), .ref (b 19), .ref (b 20), .ref (b 21), .ref (b 22)]))]) [(r, eI aC 1200 (updI (updI f 0 (P % 65536)) (0 + 1) ((P / 65536) % 65536))), (b 0, .inr (6, [.int (iI er), .int (iI M.rw), .int (iI M.cn), .int (iI M.en), .int (iI M.pr), .double (dM M.ko (-3)), .ref (b 1), .ref (b 2), .ref (b 3), .ref (b 4), .ref (b 5), .ref (b 6), .ref (b 7), .ref (b 8), .ref (b 9), .ref (b 10), .ref (b 11), .ref (b 12), .ref (b 13), .ref (b 14), .ref (b 15), .int (iI p2), .ref (b 16), .ref (b 17), .ref (b 18), .ref (b 19), .ref (b 20), .ref (b 21), .ref (b 22)]))] := hD
              refine lv_lload hx hb d_Mo_exact_114 (lv_at hl 1 rfl) ?_
              refine lv_bipush (v := iI 16) hx hb d_Mo_exact_116 (by decide +kernel) ?_
              refine x_lshr hx hb d_Mo_exact_118 (by omega) (by omega) ?_
              refine x_topl _ ((P / 65536) / 65536) rfl ?_
              refine lv_lstore (lv' := [(7, .long (lI ((P / 65536) / 65536))), (9, .int (iI (0 + 1 + 1))), (6, .int (iI (t - u))), (4, .double (dM (-k) (q + (-t) + u))), (0, .ref (b 0)), (3, .ref r)]) hx hb d_Mo_exact_119 hl (by decide) rfl (fun ls hl => ?_)
              refine lv_goto (tgt := 93) hx hb d_Mo_exact_121 (by decide) ?_
              refine lv_lload hx hb d_Mo_exact_93 (lv_at hl 0 rfl) ?_
              refine lv_lconst (v := lI 0) hx hb d_Mo_exact_95 (by decide +kernel) ?_
              refine x_lcmp_eq (tgt := 124) hx hb d_Mo_exact_96 d_Mo_exact_97 (by decide) (by omega) (by omega) (fun c_96 => (by exfalso; omega)) (fun c_96 => ?_)
              refine lv_aload_n hx hb d_Mo_exact_100 rfl (lv_at hl 5 rfl) ?_
              refine lv_iload hx hb d_Mo_exact_101 (lv_at hl 1 rfl) ?_
              refine lv_iinc (v := iI (0 + 1 + 1 + 1)) (lv' := [(9, .int (iI (0 + 1 + 1 + 1))), (7, .long (lI ((P / 65536) / 65536))), (6, .int (iI (t - u))), (4, .double (dM (-k) (q + (-t) + u))), (0, .ref (b 0)), (3, .ref r)]) hx hb d_Mo_exact_103 hl (k := 1) rfl (iI_add _ _) (by decide) rfl (fun ls hl => ?_)
              refine lv_lload hx hb d_Mo_exact_106 (lv_at hl 1 rfl) ?_
              refine x_ldc2 hx hb 65535 (by decide +kernel) hown (hts _ wk_Mo_82) d_Mo_exact_108 ?_
              refine x_land (v := (((P / 65536) / 65536) % 65536)) hx hb d_Mo_exact_111 (lI_m16 _) ?_
              refine x_l2i hx hb d_Mo_exact_112 ?_
              refine x_iast hx hb hK hP hD hS 0 rfl (by omega) (by decide) d_Mo_exact_113 (fun H locs hP hD hS => ?_)
              have hP : va_P D CL [(r, eI aC 1200 (updI (updI (updI f 0 (P % 65536)) (0 + 1) ((P / 65536) % 65536)) (0 + 1 + 1) (((P / 65536) / 65536) % 65536))), (b 0, .inr (6, [.int (iI er), .int (iI M.rw), .int (iI M.cn), .int (iI M.en), .int (iI M.pr), .double (dM M.ko (-3)), .ref (b 1), .ref (b 2), .ref (b 3), .ref (b 4), .ref (b 5), .ref (b 6), .ref (b 7), .ref (b 8), .ref (b 9), .ref (b 10), .ref (b 11), .ref (b 12), .ref (b 13), .ref (b 14), .ref (b 15), .int (iI p2), .ref (b 16), .ref (b 17), .ref (b 18), .ref (b 19), .ref (b 20), .ref (b 21), .ref (b 22)]))] H := hP
              have hD : va_D (aW [(r, eI aC 1200 f), (b 0, .inr (6, [.int (iI er), .int (iI M.rw), .int (iI M.cn), .int (iI M.en), .int (iI M.pr), .double (dM M.ko (-3)), .ref (b 1), .ref (b 2), .ref (b 3), .ref (b 4), .ref (b 5), .ref (b 6), .ref (b 7), .ref (b 8), .ref (b 9), .ref (b 10), .ref (b 11), .ref (b 12), .ref (b 13), .ref (b 14), .ref (b 15), .int (iI p2), .ref (b 16), .ref (b 17), .ref (b 18), .ref (b 19), .ref (b 20), .ref (b 21), .ref (b 22)]))]) [(r, eI aC 1200 (updI (updI (updI f 0 (P % 65536)) (0 + 1) ((P / 65536) % 65536)) (0 + 1 + 1) (((P / 65536) / 65536) % 65536))), (b 0, .inr (6, [.int (iI er), .int (iI M.rw), .int (iI M.cn), .int (iI M.en), .int (iI M.pr), .double (dM M.ko (-3)), .ref (b 1), .ref (b 2), .ref (b 3), .ref (b 4), .ref (b 5), .ref (b 6), .ref (b 7), .ref (b 8), .ref (b 9), .ref (b 10), .ref (b 11), .ref (b 12), .ref (b 13), .ref (b 14), .ref (b 15), .int (iI p2), .ref (b 16), .ref (b 17), .ref (b 18), .ref (b 19), .ref (b 20), .ref (b 21), .ref (b 22)]))] := hD
              refine lv_lload hx hb d_Mo_exact_114 (lv_at hl 1 rfl) ?_
              refine lv_bipush (v := iI 16) hx hb d_Mo_exact_116 (by decide +kernel) ?_
              refine x_lshr hx hb d_Mo_exact_118 (by omega) (by omega) ?_
              refine x_topl _ (((P / 65536) / 65536) / 65536) rfl ?_
              refine lv_lstore (lv' := [(7, .long (lI (((P / 65536) / 65536) / 65536))), (9, .int (iI (0 + 1 + 1 + 1))), (6, .int (iI (t - u))), (4, .double (dM (-k) (q + (-t) + u))), (0, .ref (b 0)), (3, .ref r)]) hx hb d_Mo_exact_119 hl (by decide) rfl (fun ls hl => ?_)
              refine lv_goto (tgt := 93) hx hb d_Mo_exact_121 (by decide) ?_
              refine lv_lload hx hb d_Mo_exact_93 (lv_at hl 0 rfl) ?_
              refine lv_lconst (v := lI 0) hx hb d_Mo_exact_95 (by decide +kernel) ?_
              refine x_lcmp_eq (tgt := 124) hx hb d_Mo_exact_96 d_Mo_exact_97 (by decide) (by omega) (by omega) (fun c_96 => (by exfalso; omega)) (fun c_96 => ?_)
              refine lv_aload_n hx hb d_Mo_exact_100 rfl (lv_at hl 5 rfl) ?_
              refine lv_iload hx hb d_Mo_exact_101 (lv_at hl 1 rfl) ?_
              refine lv_iinc (v := iI (0 + 1 + 1 + 1 + 1)) (lv' := [(9, .int (iI (0 + 1 + 1 + 1 + 1))), (7, .long (lI (((P / 65536) / 65536) / 65536))), (6, .int (iI (t - u))), (4, .double (dM (-k) (q + (-t) + u))), (0, .ref (b 0)), (3, .ref r)]) hx hb d_Mo_exact_103 hl (k := 1) rfl (iI_add _ _) (by decide) rfl (fun ls hl => ?_)
              refine lv_lload hx hb d_Mo_exact_106 (lv_at hl 1 rfl) ?_
              refine x_ldc2 hx hb 65535 (by decide +kernel) hown (hts _ wk_Mo_82) d_Mo_exact_108 ?_
              refine x_land (v := ((((P / 65536) / 65536) / 65536) % 65536)) hx hb d_Mo_exact_111 (lI_m16 _) ?_
              refine x_l2i hx hb d_Mo_exact_112 ?_
              refine x_iast hx hb hK hP hD hS 0 rfl (by omega) (by decide) d_Mo_exact_113 (fun H locs hP hD hS => ?_)
              have hP : va_P D CL [(r, eI aC 1200 (updI (updI (updI (updI f 0 (P % 65536)) (0 + 1) ((P / 65536) % 65536)) (0 + 1 + 1) (((P / 65536) / 65536) % 65536)) (0 + 1 + 1 + 1) ((((P / 65536) / 65536) / 65536) % 65536))), (b 0, .inr (6, [.int (iI er), .int (iI M.rw), .int (iI M.cn), .int (iI M.en), .int (iI M.pr), .double (dM M.ko (-3)), .ref (b 1), .ref (b 2), .ref (b 3), .ref (b 4), .ref (b 5), .ref (b 6), .ref (b 7), .ref (b 8), .ref (b 9), .ref (b 10), .ref (b 11), .ref (b 12), .ref (b 13), .ref (b 14), .ref (b 15), .int (iI p2), .ref (b 16), .ref (b 17), .ref (b 18), .ref (b 19), .ref (b 20), .ref (b 21), .ref (b 22)]))] H := hP
              have hD : va_D (aW [(r, eI aC 1200 f), (b 0, .inr (6, [.int (iI er), .int (iI M.rw), .int (iI M.cn), .int (iI M.en), .int (iI M.pr), .double (dM M.ko (-3)), .ref (b 1), .ref (b 2), .ref (b 3), .ref (b 4), .ref (b 5), .ref (b 6), .ref (b 7), .ref (b 8), .ref (b 9), .ref (b 10), .ref (b 11), .ref (b 12), .ref (b 13), .ref (b 14), .ref (b 15), .int (iI p2), .ref (b 16), .ref (b 17), .ref (b 18), .ref (b 19), .ref (b 20), .ref (b 21), .ref (b 22)]))]) [(r, eI aC 1200 (updI (updI (updI (updI f 0 (P % 65536)) (0 + 1) ((P / 65536) % 65536)) (0 + 1 + 1) (((P / 65536) / 65536) % 65536)) (0 + 1 + 1 + 1) ((((P / 65536) / 65536) / 65536) % 65536))), (b 0, .inr (6, [.int (iI er), .int (iI M.rw), .int (iI M.cn), .int (iI M.en), .int (iI M.pr), .double (dM M.ko (-3)), .ref (b 1), .ref (b 2), .ref (b 3), .ref (b 4), .ref (b 5), .ref (b 6), .ref (b 7), .ref (b 8), .ref (b 9), .ref (b 10), .ref (b 11), .ref (b 12), .ref (b 13), .ref (b 14), .ref (b 15), .int (iI p2), .ref (b 16), .ref (b 17), .ref (b 18), .ref (b 19), .ref (b 20), .ref (b 21), .ref (b 22)]))] := hD
              refine lv_lload hx hb d_Mo_exact_114 (lv_at hl 1 rfl) ?_
              refine lv_bipush (v := iI 16) hx hb d_Mo_exact_116 (by decide +kernel) ?_
              refine x_lshr hx hb d_Mo_exact_118 (by omega) (by omega) ?_
              refine x_topl _ ((((P / 65536) / 65536) / 65536) / 65536) rfl ?_
              refine lv_lstore (lv' := [(7, .long (lI ((((P / 65536) / 65536) / 65536) / 65536))), (9, .int (iI (0 + 1 + 1 + 1 + 1))), (6, .int (iI (t - u))), (4, .double (dM (-k) (q + (-t) + u))), (0, .ref (b 0)), (3, .ref r)]) hx hb d_Mo_exact_119 hl (by decide) rfl (fun ls hl => ?_)
              refine lv_goto (tgt := 93) hx hb d_Mo_exact_121 (by decide) ?_
              refine lv_lload hx hb d_Mo_exact_93 (lv_at hl 0 rfl) ?_
              refine lv_lconst (v := lI 0) hx hb d_Mo_exact_95 (by decide +kernel) ?_
              refine x_lcmp_eq (tgt := 124) hx hb d_Mo_exact_96 d_Mo_exact_97 (by decide) (by omega) (by omega) (fun c_96 => ?_) (fun c_96 => (by exfalso; omega))
              refine lv_aload_n hx hb d_Mo_exact_124 rfl (lv_at hl 4 rfl) ?_
              refine lv_iload hx hb d_Mo_exact_125 (lv_at hl 2 rfl) ?_
              refine va_put (D := D) (ci := 6) (v := .int (iI (t - u))) (ty := .int) (C := R_Mo) (T := F_Mo) (N := 29) hx hb hts i_Mo t_Mo t_Mo_ok n_Mo hown hK hP hD hS 1 rfl rfl 21 (by decide) (hts _ wf_Mo_89) (fun _ h9 => h9) rfl (by decide +kernel) rfl rfl (Nat.le_of_ble_eq_true rfl) d_Mo_exact_127 (fun H locs hP hD hS => ?_)
              have hP : va_P D CL [(r, eI aC 1200 (updI (updI (updI (updI f 0 (P % 65536)) (0 + 1) ((P / 65536) % 65536)) (0 + 1 + 1) (((P / 65536) / 65536) % 65536)) (0 + 1 + 1 + 1) ((((P / 65536) / 65536) / 65536) % 65536))), (b 0, .inr (6, [.int (iI er), .int (iI M.rw), .int (iI M.cn), .int (iI M.en), .int (iI M.pr), .double (dM M.ko (-3)), .ref (b 1), .ref (b 2), .ref (b 3), .ref (b 4), .ref (b 5), .ref (b 6), .ref (b 7), .ref (b 8), .ref (b 9), .ref (b 10), .ref (b 11), .ref (b 12), .ref (b 13), .ref (b 14), .ref (b 15), .int (iI (t - u)), .ref (b 16), .ref (b 17), .ref (b 18), .ref (b 19), .ref (b 20), .ref (b 21), .ref (b 22)]))] H := hP
              have hD : va_D (aW [(r, eI aC 1200 f), (b 0, .inr (6, [.int (iI er), .int (iI M.rw), .int (iI M.cn), .int (iI M.en), .int (iI M.pr), .double (dM M.ko (-3)), .ref (b 1), .ref (b 2), .ref (b 3), .ref (b 4), .ref (b 5), .ref (b 6), .ref (b 7), .ref (b 8), .ref (b 9), .ref (b 10), .ref (b 11), .ref (b 12), .ref (b 13), .ref (b 14), .ref (b 15), .int (iI p2), .ref (b 16), .ref (b 17), .ref (b 18), .ref (b 19), .ref (b 20), .ref (b 21), .ref (b 22)]))]) [(r, eI aC 1200 (updI (updI (updI (updI f 0 (P % 65536)) (0 + 1) ((P / 65536) % 65536)) (0 + 1 + 1) (((P / 65536) / 65536) % 65536)) (0 + 1 + 1 + 1) ((((P / 65536) / 65536) / 65536) % 65536))), (b 0, .inr (6, [.int (iI er), .int (iI M.rw), .int (iI M.cn), .int (iI M.en), .int (iI M.pr), .double (dM M.ko (-3)), .ref (b 1), .ref (b 2), .ref (b 3), .ref (b 4), .ref (b 5), .ref (b 6), .ref (b 7), .ref (b 8), .ref (b 9), .ref (b 10), .ref (b 11), .ref (b 12), .ref (b 13), .ref (b 14), .ref (b 15), .int (iI (t - u)), .ref (b 16), .ref (b 17), .ref (b 18), .ref (b 19), .ref (b 20), .ref (b 21), .ref (b 22)]))] := hD
              refine lv_iload hx hb d_Mo_exact_130 (lv_at hl 1 rfl) ?_
              exact x_iret hx hb hr hlocks hQ (⟨by unfold ex4; rw [if_neg (by omega)]; rfl, updI (updI (updI (updI f 0 (P % 65536)) (0 + 1) ((P / 65536) % 65536)) (0 + 1 + 1) (((P / 65536) / 65536) % 65536)) (0 + 1 + 1 + 1) ((((P / 65536) / 65536) / 65536) % 65536), show [(r, eI aC 1200 (updI (updI (updI (updI f 0 (P % 65536)) (0 + 1) ((P / 65536) % 65536)) (0 + 1 + 1) (((P / 65536) / 65536) % 65536)) (0 + 1 + 1 + 1) ((((P / 65536) / 65536) / 65536) % 65536))), (b 0, .inr (6, [.int (iI er), .int (iI M.rw), .int (iI M.cn), .int (iI M.en), .int (iI M.pr), .double (dM M.ko (-3)), .ref (b 1), .ref (b 2), .ref (b 3), .ref (b 4), .ref (b 5), .ref (b 6), .ref (b 7), .ref (b 8), .ref (b 9), .ref (b 10), .ref (b 11), .ref (b 12), .ref (b 13), .ref (b 14), .ref (b 15), .int (iI (t - u)), .ref (b 16), .ref (b 17), .ref (b 18), .ref (b 19), .ref (b 20), .ref (b 21), .ref (b 22)]))] = _ by rw [if_neg (by omega), show t - u = q - nt k by have := nt_neg k; omega], by unfold ex4; rw [if_neg (by omega)]; exact ex_fin (by rw [nt_neg] at hPd; rw [← hPd]; rw [show (k.natAbs : Int) = -k by omega]) (by omega)⟩) rfl hP hS d_Mo_exact_132
            · have e_59 : ¬ (nt (-k) : Int) ≤ q + (-t) + u := fun z => c_59 ((nt_le (k := -k) (by omega) (by omega) (by omega)).mpr z)
              refine lv_iload hx hb d_Mo_exact_63 (lv_at hl 0 rfl) ?_
              refine lv_sipush (v := iI (-1074)) hx hb d_Mo_exact_65 (by decide +kernel) ?_
              refine x_icmp_le (tgt := 85) hx hb d_Mo_exact_68 (by decide) (by omega) (by omega) (fun c_68 => (by exfalso; omega)) (fun c_68 => ?_)
              refine lv_dload hx hb d_Mo_exact_71 (lv_at hl 1 rfl) ?_
              refine x_ldc2d hx hb 1 1 (by decide +kernel) hown (hts _ wk_Mo_98) d_Mo_exact_73 ?_
              refine x_dmul1 hx hb d_Mo_exact_76 (by unfold dOk; omega) (by unfold dOk; omega) (by unfold dOk; omega) ?_
              refine lv_dstore (lv' := [(4, .double (dM (-k) ((q + (-t) + u) + 1))), (6, .int (iI (t - u))), (0, .ref (b 0)), (3, .ref r)]) hx hb d_Mo_exact_77 hl (by decide) rfl (fun ls hl => ?_)
              refine lv_iinc (v := iI (t - u + (-1))) (lv' := [(6, .int (iI (t - u + (-1)))), (4, .double (dM (-k) ((q + (-t) + u) + 1))), (0, .ref (b 0)), (3, .ref r)]) hx hb d_Mo_exact_79 hl (k := 1) rfl (iI_add _ _) (by decide) rfl (fun ls hl => ?_)
              refine lv_goto (tgt := 54) hx hb d_Mo_exact_82 (by decide) ?_
              exact ih54 (u + 1) _ _ ls (by omega) (by omega) hP hD hS (by rw [show (t - (u + 1) : Int) = t - u + (-1) by omega, show (q + (-t) + (u + 1) : Int) = (q + (-t) + u) + 1 by omega]; exact lv_sub hl [0, 1, 2, 3] rfl)
        exact L54 _ 0 _ _ ls (by omega) (n_lt _) hP hD hS (by rw [show (t - 0 : Int) = t by omega, show (q + (-t) + 0 : Int) = q + (-t) by omega]; exact lv_sub hl [0, 1, 2, 3] rfl)
      · have e_36 := (nt_ge (k := -k) (q := q + (-t)) (by omega) (by omega) (by omega)).mp (by omega)
        refine lv_dload hx hb d_Mo_exact_40 (lv_at hl 1 rfl) ?_
        refine x_ldc2d hx hb 1 (-1) (by decide +kernel) hown (hts _ wk_Mo_94) d_Mo_exact_42 ?_
        refine x_dmul1 hx hb d_Mo_exact_45 (by unfold dOk; omega) (by unfold dOk; omega) (by unfold dOk; omega) ?_
        refine lv_dstore (lv' := [(4, .double (dM (-k) ((q + (-t)) + (-1)))), (6, .int (iI t)), (0, .ref (b 0)), (3, .ref r)]) hx hb d_Mo_exact_46 hl (by decide) rfl (fun ls hl => ?_)
        refine lv_iinc (v := iI (t + 1)) (lv' := [(6, .int (iI (t + 1))), (4, .double (dM (-k) ((q + (-t)) + (-1)))), (0, .ref (b 0)), (3, .ref r)]) hx hb d_Mo_exact_48 hl (k := 1) rfl (iI_add _ _) (by decide) rfl (fun ls hl => ?_)
        refine lv_goto (tgt := 31) hx hb d_Mo_exact_51 (by decide) ?_
        exact ih (t + 1) _ _ ls (by omega) (by omega) hP hD hS (by rw [show (q + (-(t + 1)) : Int) = (q + (-t)) + (-1) by omega]; exact lv_sub hl [0, 1, 2, 3] rfl)
  exact L31 _ 0 _ _ ls (by omega) (n_lt _) hP hD hS (by rw [show (q + (-0) : Int) = q by omega]; exact lv_sub hl [0, 1, 2, 4] rfl)
theorem c_Mo_exact (l : Launch) (D : va_G) (aC : Nat → ClassId) (b : Nat → Nat) (M : MS) (er p2 : Int) (r : Nat) (f : Int → Int) (k q : Int) (hk : -4294967296 < k ∧ k < 4294967296) (hq : -700 ≤ q ∧ q ≤ 700) : CT l D aC y_Mo_exact (rd 0 0) [.ref (b 0), .double (dM k q), .ref r] [(r, eI aC 1200 f), (b 0, .inr (6, [.int (iI er), .int (iI M.rw), .int (iI M.cn), .int (iI M.en), .int (iI M.pr), .double (dM M.ko (-3)), .ref (b 1), .ref (b 2), .ref (b 3), .ref (b 4), .ref (b 5), .ref (b 6), .ref (b 7), .ref (b 8), .ref (b 9), .ref (b 10), .ref (b 11), .ref (b 12), .ref (b 13), .ref (b 14), .ref (b 15), .int (iI p2), .ref (b 16), .ref (b 17), .ref (b 18), .ref (b 19), .ref (b 20), .ref (b 21), .ref (b 22)]))] (fun v w => v = some (.int (iI (ex4 k))) ∧ ∃ g : Int → Int, w = [(r, eI aC 1200 g), (b 0, .inr (6, [.int (iI er), .int (iI M.rw), .int (iI M.cn), .int (iI M.en), .int (iI M.pr), .double (dM M.ko (-3)), .ref (b 1), .ref (b 2), .ref (b 3), .ref (b 4), .ref (b 5), .ref (b 6), .ref (b 7), .ref (b 8), .ref (b 9), .ref (b 10), .ref (b 11), .ref (b 12), .ref (b 13), .ref (b 14), .ref (b 15), .int (iI (if k = 0 then 0 else q - nt k)), .ref (b 16), .ref (b 17), .ref (b 18), .ref (b 19), .ref (b 20), .ref (b 21), .ref (b 22)]))] ∧ dg 16 g (ex4 k).toNat = (k.natAbs : Int) * 2 ^ nt k ∧ ∀ j : Int, 0 ≤ j → j < ex4 k → 0 ≤ g j ∧ g j < 65536) := by
  rcases (show k = 0 ∨ 0 < k ∨ k < 0 by omega) with h | h | h
  · exact c_Mo_exact_0 l D aC b M er p2 r f k q hk hq h
  · exact c_Mo_exact_p l D aC b M er p2 r f k q hk hq h
  · exact c_Mo_exact_n l D aC b M er p2 r f k q hk hq h
