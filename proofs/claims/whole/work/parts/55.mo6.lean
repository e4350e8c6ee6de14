def dA (k q : Int → Int) : Int → UInt64 := fun i => dM (k i) (q i)
def c3 : Int → Int := fun _ => -3
def NK (n : Int) (k : Int → Int) : Prop := ∀ i : Int, 0 ≤ i → i < n → -4294967296 < k i ∧ k i < 4294967296
def NZ (n : Int) (k : Int → Int) : Prop := ∀ i : Int, 0 ≤ i → i < n → k i = 0 ∨ k i = 1
def NQ (n : Int) (k : Int → Int) : Prop := ∀ i : Int, 0 ≤ i → i < n → -650 ≤ k i ∧ k i ≤ 650
def U3 (l k1 q1 k2 q2 k3 q3 b : Int) : Int := (1 - 2 * l) * k1 * k2 * k3 * 2 ^ (q1 + q2 + q3 + b + 3400).toNat

def MI (M : MS) : Prop := (0 ≤ M.rw ∧ M.rw ≤ 12) ∧ (0 ≤ M.cn ∧ M.cn ≤ 16) ∧ (0 ≤ M.en ∧ M.en ≤ 100) ∧ (0 ≤ M.pr ∧ M.pr ≤ 60) ∧ (-4294967296 < M.ko ∧ M.ko < 4294967296) ∧ (NK 192 M.ka) ∧ (NK 16 M.kc) ∧ (NK 256 M.kq) ∧ (NK 16 M.kl) ∧ (NK 16 M.kh) ∧ (NK 12 M.krl) ∧ (NK 12 M.krh) ∧ (NK 16 M.kx) ∧ (NK 12 M.ky) ∧ (NQ 16 M.xb) ∧ (NQ 12 M.yb) ∧ (NZ 192 M.ai) ∧ (NZ 256 M.qi) ∧ (NZ 16 M.li) ∧ (NZ 16 M.hi) ∧ (NZ 12 M.rli) ∧ (NZ 12 M.rhi)
theorem MI.rw {M : MS} (h : MI M) : 0 ≤ M.rw ∧ M.rw ≤ 12 := h.1
theorem MI.cn {M : MS} (h : MI M) : 0 ≤ M.cn ∧ M.cn ≤ 16 := h.2.1
theorem MI.en {M : MS} (h : MI M) : 0 ≤ M.en ∧ M.en ≤ 100 := h.2.2.1
theorem MI.pr {M : MS} (h : MI M) : 0 ≤ M.pr ∧ M.pr ≤ 60 := h.2.2.2.1
theorem MI.ko {M : MS} (h : MI M) : -4294967296 < M.ko ∧ M.ko < 4294967296 := h.2.2.2.2.1
theorem MI.ka {M : MS} (h : MI M) : NK 192 M.ka := h.2.2.2.2.2.1
theorem MI.kc {M : MS} (h : MI M) : NK 16 M.kc := h.2.2.2.2.2.2.1
theorem MI.kq {M : MS} (h : MI M) : NK 256 M.kq := h.2.2.2.2.2.2.2.1
theorem MI.kl {M : MS} (h : MI M) : NK 16 M.kl := h.2.2.2.2.2.2.2.2.1
theorem MI.kh {M : MS} (h : MI M) : NK 16 M.kh := h.2.2.2.2.2.2.2.2.2.1
theorem MI.krl {M : MS} (h : MI M) : NK 12 M.krl := h.2.2.2.2.2.2.2.2.2.2.1
theorem MI.krh {M : MS} (h : MI M) : NK 12 M.krh := h.2.2.2.2.2.2.2.2.2.2.2.1
theorem MI.kx {M : MS} (h : MI M) : NK 16 M.kx := h.2.2.2.2.2.2.2.2.2.2.2.2.1
theorem MI.ky {M : MS} (h : MI M) : NK 12 M.ky := h.2.2.2.2.2.2.2.2.2.2.2.2.2.1
theorem MI.xb {M : MS} (h : MI M) : NQ 16 M.xb := h.2.2.2.2.2.2.2.2.2.2.2.2.2.2.1
theorem MI.yb {M : MS} (h : MI M) : NQ 12 M.yb := h.2.2.2.2.2.2.2.2.2.2.2.2.2.2.2.1
theorem MI.ai {M : MS} (h : MI M) : NZ 192 M.ai := h.2.2.2.2.2.2.2.2.2.2.2.2.2.2.2.2.1
theorem MI.qi {M : MS} (h : MI M) : NZ 256 M.qi := h.2.2.2.2.2.2.2.2.2.2.2.2.2.2.2.2.2.1
theorem MI.li {M : MS} (h : MI M) : NZ 16 M.li := h.2.2.2.2.2.2.2.2.2.2.2.2.2.2.2.2.2.2.1
theorem MI.hi {M : MS} (h : MI M) : NZ 16 M.hi := h.2.2.2.2.2.2.2.2.2.2.2.2.2.2.2.2.2.2.2.1
theorem MI.rli {M : MS} (h : MI M) : NZ 12 M.rli := h.2.2.2.2.2.2.2.2.2.2.2.2.2.2.2.2.2.2.2.2.1
theorem MI.rhi {M : MS} (h : MI M) : NZ 12 M.rhi := h.2.2.2.2.2.2.2.2.2.2.2.2.2.2.2.2.2.2.2.2.2
def mA (M : MS) (i : Int) : Int → Int := fun j => if M.ai (16 * i + j) ≠ 0 then U3 0 (M.ka (16 * i + j)) (-3) (M.kx j) (M.xb j) 1 0 0 else 0
def mQ (M : MS) (j : Int) : Int → Int := fun i => if M.qi (16 * i + j) ≠ 0 then U3 0 (M.kq (16 * i + j)) (-3) (M.kx i) (M.xb i) 1 0 0 else 0
def mY (M : MS) (j : Int) : Int → Int := fun i => if M.ai (16 * i + j) ≠ 0 then U3 1 (M.ka (16 * i + j)) (-3) (M.ky i) (M.yb i) 1 0 0 else 0
theorem su_i {F : Int → Int} {V : Int} : V + su F (0 : Int).toNat = V := Int.add_zero V

set_option maxHeartbeats 4000000 in
set_option maxRecDepth 100000 in
theorem c_Mo_activity (l : Launch) (D : va_G) (aC : Nat → ClassId) (b : Nat → Nat) (M : MS) (hM : MI M) (er p2 : Int) (f f1 f2 f3 f4 f5 : Int → Int) (i : Int) (hi : 0 ≤ i ∧ i < 12) : CT l D aC y_Mo_activity (rd 3 97) [.ref (b 0), .int (iI i)] [(b 16, eI aC 440 f), (b 18, eI aC 1200 f1), (b 19, eI aC 1200 f2), (b 20, eI aC 1200 f3), (b 21, eI aC 1200 f4), (b 22, eI aC 1200 f5), (b 0, .inr (6, [.int (iI er), .int (iI M.rw), .int (iI M.cn), .int (iI M.en), .int (iI M.pr), .double (dM M.ko (-3)), .ref (b 1), .ref (b 2), .ref (b 3), .ref (b 4), .ref (b 5), .ref (b 6), .ref (b 7), .ref (b 8), .ref (b 9), .ref (b 10), .ref (b 11), .ref (b 12), .ref (b 13), .ref (b 14), .ref (b 15), .int (iI p2), .ref (b 16), .ref (b 17), .ref (b 18), .ref (b 19), .ref (b 20), .ref (b 21), .ref (b 22)])), (b 1, eD aC 192 (dA M.ka c3)), (b 8, eD aC 16 (dA M.kx M.xb)), (b 10, eZ aC 192 M.ai)] (fun v w => v = none ∧ ∃ (h g1 g2 g3 g4 g5 : Int → Int) (p2' : Int), w = [(b 16, eI aC 440 h), (b 18, eI aC 1200 g1), (b 19, eI aC 1200 g2), (b 20, eI aC 1200 g3), (b 21, eI aC 1200 g4), (b 22, eI aC 1200 g5), (b 0, .inr (6, [.int (iI er), .int (iI M.rw), .int (iI M.cn), .int (iI M.en), .int (iI M.pr), .double (dM M.ko (-3)), .ref (b 1), .ref (b 2), .ref (b 3), .ref (b 4), .ref (b 5), .ref (b 6), .ref (b 7), .ref (b 8), .ref (b 9), .ref (b 10), .ref (b 11), .ref (b 12), .ref (b 13), .ref (b 14), .ref (b 15), .int (iI p2'), .ref (b 16), .ref (b 17), .ref (b 18), .ref (b 19), .ref (b 20), .ref (b 21), .ref (b 22)])), (b 1, eD aC 192 (dA M.ka c3)), (b 8, eD aC 16 (dA M.kx M.xb)), (b 10, eZ aC 192 M.ai)] ∧ SumOk h (0 + su (mA M i) M.cn.toNat)) := by
  refine CT.of (cc := b_Mo_activity) (maxL := 3) (ret := none) (by decide +kernel) k_Mo_activity (Nat.le_of_ble_eq_true rfl) ?_
  intro p e s m below meth c Q S hr hlocks hQ hK hN hP hD hS ls hl
  obtain ⟨hx, hb, hml, hown, hts⟩ := id S
  have hl : lv_has ls 3 [(0, .ref (b 0)), (1, .int (iI i))] := hl
  have hrw := hM.rw
  have hcn := hM.cn
  refine lv_aload_n hx hb d_Mo_activity_0 rfl (lv_at hl 0 rfl) ?_
  refine x_callV0F S (c_Mo_zero l D aC b M er p2 f) t_Mo_165 (rm_ok (by decide) (by decide)) hK hN hP hD hS [0] [6] rfl rfl (fun w9 hw => by obtain ⟨s1, rfl, hs1⟩ := hw; exact ⟨rfl, Nat.le_of_ble_eq_true rfl⟩) 1 6 rfl rfl rfl hl.1 rfl (Nat.le_of_ble_eq_true rfl) d_Mo_activity_1 ⟨Nat.zero_le _, Nat.zero_le _⟩ (fun w1 ws1 H locs e9 hw hP hD hS => ?_)
  obtain ⟨s1, rfl, hs1⟩ := hw
  have e9 : ws1 = [(b 16, eI aC 440 s1), (b 18, eI aC 1200 f1), (b 19, eI aC 1200 f2), (b 20, eI aC 1200 f3), (b 21, eI aC 1200 f4), (b 22, eI aC 1200 f5), (b 0, .inr (6, [.int (iI er), .int (iI M.rw), .int (iI M.cn), .int (iI M.en), .int (iI M.pr), .double (dM M.ko (-3)), .ref (b 1), .ref (b 2), .ref (b 3), .ref (b 4), .ref (b 5), .ref (b 6), .ref (b 7), .ref (b 8), .ref (b 9), .ref (b 10), .ref (b 11), .ref (b 12), .ref (b 13), .ref (b 14), .ref (b 15), .int (iI p2), .ref (b 16), .ref (b 17), .ref (b 18), .ref (b 19), .ref (b 20), .ref (b 21), .ref (b 22)])), (b 1, eD aC 192 (dA M.ka c3)), (b 8, eD aC 16 (dA M.kx M.xb)), (b 10, eZ aC 192 M.ai)] := e9
  subst e9
  refine lv_iconst (v := iI 0) hx hb d_Mo_activity_4 rfl ?_
  refine lv_istore_n (lv' := [(2, .int (iI 0)), (0, .ref (b 0)), (1, .int (iI i))]) hx hb d_Mo_activity_5 rfl hl (by decide) rfl (fun ls hl => ?_)
  have hs0 := hs1
  have L6 : ∀ (nn : Nat) (t : Int) (h : Int → Int) (e1 : Int → Int) (e2 : Int → Int) (e3 : Int → Int) (e4 : Int → Int) (e5 : Int → Int) (p2' : Int) (H : Heap) (locs : List Loc) (ls : Array Slot), (0 ≤ t ∧ t ≤ M.cn) → (SumOk h (0 + su (mA M i) t.toNat)) → M.cn - t < (nn : Int) → va_P D CL [(b 16, eI aC 440 h), (b 18, eI aC 1200 e1), (b 19, eI aC 1200 e2), (b 20, eI aC 1200 e3), (b 21, eI aC 1200 e4), (b 22, eI aC 1200 e5), (b 0, .inr (6, [.int (iI er), .int (iI M.rw), .int (iI M.cn), .int (iI M.en), .int (iI M.pr), .double (dM M.ko (-3)), .ref (b 1), .ref (b 2), .ref (b 3), .ref (b 4), .ref (b 5), .ref (b 6), .ref (b 7), .ref (b 8), .ref (b 9), .ref (b 10), .ref (b 11), .ref (b 12), .ref (b 13), .ref (b 14), .ref (b 15), .int (iI p2'), .ref (b 16), .ref (b 17), .ref (b 18), .ref (b 19), .ref (b 20), .ref (b 21), .ref (b 22)])), (b 1, eD aC 192 (dA M.ka c3)), (b 8, eD aC 16 (dA M.kx M.xb)), (b 10, eZ aC 192 M.ai)] H → va_D (aW [(b 16, eI aC 440 f), (b 18, eI aC 1200 f1), (b 19, eI aC 1200 f2), (b 20, eI aC 1200 f3), (b 21, eI aC 1200 f4), (b 22, eI aC 1200 f5), (b 0, .inr (6, [.int (iI er), .int (iI M.rw), .int (iI M.cn), .int (iI M.en), .int (iI M.pr), .double (dM M.ko (-3)), .ref (b 1), .ref (b 2), .ref (b 3), .ref (b 4), .ref (b 5), .ref (b 6), .ref (b 7), .ref (b 8), .ref (b 9), .ref (b 10), .ref (b 11), .ref (b 12), .ref (b 13), .ref (b 14), .ref (b 15), .int (iI p2), .ref (b 16), .ref (b 17), .ref (b 18), .ref (b 19), .ref (b 20), .ref (b 21), .ref (b 22)])), (b 1, eD aC 192 (dA M.ka c3)), (b 8, eD aC 16 (dA M.kx M.xb)), (b 10, eZ aC 192 M.ai)]) [(b 16, eI aC 440 h), (b 18, eI aC 1200 e1), (b 19, eI aC 1200 e2), (b 20, eI aC 1200 e3), (b 21, eI aC 1200 e4), (b 22, eI aC 1200 e5), (b 0, .inr (6, [.int (iI er), .int (iI M.rw), .int (iI M.cn), .int (iI M.en), .int (iI M.pr), .double (dM M.ko (-3)), .ref (b 1), .ref (b 2), .ref (b 3), .ref (b 4), .ref (b 5), .ref (b 6), .ref (b 7), .ref (b 8), .ref (b 9), .ref (b 10), .ref (b 11), .ref (b 12), .ref (b 13), .ref (b 14), .ref (b 15), .int (iI p2'), .ref (b 16), .ref (b 17), .ref (b 18), .ref (b 19), .ref (b 20), .ref (b 21), .ref (b 22)])), (b 1, eD aC 192 (dA M.ka c3)), (b 8, eD aC 16 (dA M.kx M.xb)), (b 10, eZ aC 192 M.ai)] → va_S (aW [(b 16, eI aC 440 f), (b 18, eI aC 1200 f1), (b 19, eI aC 1200 f2), (b 20, eI aC 1200 f3), (b 21, eI aC 1200 f4), (b 22, eI aC 1200 f5), (b 0, .inr (6, [.int (iI er), .int (iI M.rw), .int (iI M.cn), .int (iI M.en), .int (iI M.pr), .double (dM M.ko (-3)), .ref (b 1), .ref (b 2), .ref (b 3), .ref (b 4), .ref (b 5), .ref (b 6), .ref (b 7), .ref (b 8), .ref (b 9), .ref (b 10), .ref (b 11), .ref (b 12), .ref (b 13), .ref (b 14), .ref (b 15), .int (iI p2), .ref (b 16), .ref (b 17), .ref (b 18), .ref (b 19), .ref (b 20), .ref (b 21), .ref (b 22)])), (b 1, eD aC 192 (dA M.ka c3)), (b 8, eD aC 16 (dA M.kx M.xb)), (b 10, eZ aC 192 M.ai)]) s.heap H locs → lv_has ls 3 [(2, .int (iI t)), (1, .int (iI i)), (0, .ref (b 0))] → W p l e (rd 3 97) s m ([.ref (b 0), .int (iI i)]).toArray below meth c H locs 0 0 Q (F0 m 6 ls []) := by
    intro nn
    induction nn with
    | zero => intro t h e1 e2 e3 e4 e5 p2' H locs ls ht hs hnn; exact absurd hnn (by omega)
    | succ nn ih =>
      intro t h e1 e2 e3 e4 e5 p2' H locs ls ht hs hnn hP hD hS hl
      refine lv_iload_n hx hb d_Mo_activity_6 rfl (lv_at hl 0 rfl) ?_
      refine lv_aload_n hx hb d_Mo_activity_7 rfl (lv_at hl 2 rfl) ?_
      refine va_get (D := D) (ci := 6) (v := .int (iI M.cn)) (C := R_Mo) (T := F_Mo) (N := 29) hx hb hts i_Mo hown hK hP 6 rfl rfl 2 (by decide) (hts _ wf_Mo_130) (fun _ h9 => h9) rfl d_Mo_activity_8 ?_
      refine x_icmp_ge (tgt := 58) hx hb d_Mo_activity_11 (by decide) (by omega) (by omega) (fun c_11 => ?_) (fun c_11 => ?_)
      · exact x_vret hx hb hr hlocks hQ (⟨rfl, h, e1, e2, e3, e4, e5, p2', rfl, by rw [show M.cn = t by omega]; exact hs⟩) rfl hP hS d_Mo_activity_58
      · refine lv_aload_n hx hb d_Mo_activity_14 rfl (lv_at hl 2 rfl) ?_
        refine va_get (D := D) (ci := 6) (v := .ref (b 10)) (C := R_Mo) (T := F_Mo) (N := 29) hx hb hts i_Mo hown hK hP 6 rfl rfl 15 (by decide) (hts _ wf_Mo_37) (fun _ h9 => h9) rfl d_Mo_activity_15 ?_
        refine lv_bipush (v := iI 16) hx hb d_Mo_activity_18 (by decide +kernel) ?_
        refine lv_iload_n hx hb d_Mo_activity_20 rfl (lv_at hl 1 rfl) ?_
        refine x_imul hx hb d_Mo_activity_21 ?_
        refine lv_iload_n hx hb d_Mo_activity_22 rfl (lv_at hl 0 rfl) ?_
        refine x_iadd hx hb d_Mo_activity_23 ?_
        have hk1 := hM.ka (16 * i + t) (by omega) (by omega)
        have hk2 := hM.kx t (by omega) (by omega)
        have hk3 := hM.xb t (by omega) (by omega)
        have hk4 := hM.ai (16 * i + t) (by omega) (by omega)
        refine x_zald hx hb hK hP 9 rfl (by omega) (by decide) d_Mo_activity_24 ?_
        refine x_if_eq (tgt := 52) hx hb d_Mo_activity_25 (by decide) (by omega) (fun c_25 => ?_) (fun c_25 => ?_)
        · refine lv_iinc (v := iI (t + 1)) (lv' := [(2, .int (iI (t + 1))), (1, .int (iI i)), (0, .ref (b 0))]) hx hb d_Mo_activity_52 hl (k := 0) rfl (iI_add _ _) (by decide) rfl (fun ls hl => ?_)
          refine lv_goto (tgt := 6) hx hb d_Mo_activity_55 (by decide) ?_
          exact ih (t + 1) h e1 e2 e3 e4 e5 p2' _ _ ls (by omega) (by rw [su_s (by omega), show mA M i t = 0 from if_neg (fun z => z c_25), Int.add_zero]; exact hs) (by omega) hP hD hS (lv_sub hl [0, 1, 2] rfl)
        · refine lv_aload_n hx hb d_Mo_activity_28 rfl (lv_at hl 2 rfl) ?_
          refine lv_aload_n hx hb d_Mo_activity_29 rfl (lv_at hl 2 rfl) ?_
          refine va_get (D := D) (ci := 6) (v := .ref (b 1)) (C := R_Mo) (T := F_Mo) (N := 29) hx hb hts i_Mo hown hK hP 6 rfl rfl 6 (by decide) (hts _ wf_Mo_9) (fun _ h9 => h9) rfl d_Mo_activity_30 ?_
          refine lv_bipush (v := iI 16) hx hb d_Mo_activity_33 (by decide +kernel) ?_
          refine lv_iload_n hx hb d_Mo_activity_35 rfl (lv_at hl 1 rfl) ?_
          refine x_imul hx hb d_Mo_activity_36 ?_
          refine lv_iload_n hx hb d_Mo_activity_37 rfl (lv_at hl 0 rfl) ?_
          refine x_iadd hx hb d_Mo_activity_38 ?_
          refine x_dald hx hb hK hP 7 rfl (by omega) (by decide) d_Mo_activity_39 ?_
          refine x_topd _ _ (M.ka ((16 * i) + t)) (-3) rfl ?_
          refine lv_aload_n hx hb d_Mo_activity_40 rfl (lv_at hl 2 rfl) ?_
          refine va_get (D := D) (ci := 6) (v := .ref (b 8)) (C := R_Mo) (T := F_Mo) (N := 29) hx hb hts i_Mo hown hK hP 6 rfl rfl 13 (by decide) (hts _ wf_Mo_31) (fun _ h9 => h9) rfl d_Mo_activity_41 ?_
          refine lv_iload_n hx hb d_Mo_activity_44 rfl (lv_at hl 0 rfl) ?_
          refine x_dald hx hb hK hP 8 rfl (by omega) (by decide) d_Mo_activity_45 ?_
          refine x_dconst1 hx hb d_Mo_activity_46 ?_
          refine lv_iconst (v := iI 0) hx hb d_Mo_activity_47 rfl ?_
          refine lv_iconst (v := iI 0) hx hb d_Mo_activity_48 rfl ?_
          refine x_callV0F S (c_Mo_add l D aC b M er p2' h e1 e2 e3 e4 e5 (M.ka ((16 * i) + t)) (-3) (M.kx t) (M.xb t) 1 0 0 0 (0 + su (mA M i) t.toNat) (by omega) (by omega) (by omega) (by omega) (by omega) (by omega) (by omega) (by omega) hs (by omega)) t_Mo_168 (rm_ok (by decide) (by decide)) hK hN hP hD hS [0, 1, 2, 3, 4, 5, 6] [] rfl rfl (fun w9 hw => by obtain ⟨s2, g1_2, g2_2, g3_2, g4_2, g5_2, p2_2, rfl, hs2⟩ := hw; exact ⟨rfl, Nat.le_of_ble_eq_true rfl⟩) 6 6 rfl rfl rfl hl.1 rfl (Nat.le_of_ble_eq_true rfl) d_Mo_activity_49 ⟨Nat.zero_le _, Nat.zero_le _⟩ (fun w1 ws1 H locs e9 hw hP hD hS => ?_)
          obtain ⟨s2, g1_2, g2_2, g3_2, g4_2, g5_2, p2_2, rfl, hs2⟩ := hw
          have e9 : ws1 = [(b 16, eI aC 440 s2), (b 18, eI aC 1200 g1_2), (b 19, eI aC 1200 g2_2), (b 20, eI aC 1200 g3_2), (b 21, eI aC 1200 g4_2), (b 22, eI aC 1200 g5_2), (b 0, .inr (6, [.int (iI er), .int (iI M.rw), .int (iI M.cn), .int (iI M.en), .int (iI M.pr), .double (dM M.ko (-3)), .ref (b 1), .ref (b 2), .ref (b 3), .ref (b 4), .ref (b 5), .ref (b 6), .ref (b 7), .ref (b 8), .ref (b 9), .ref (b 10), .ref (b 11), .ref (b 12), .ref (b 13), .ref (b 14), .ref (b 15), .int (iI p2_2), .ref (b 16), .ref (b 17), .ref (b 18), .ref (b 19), .ref (b 20), .ref (b 21), .ref (b 22)])), (b 1, eD aC 192 (dA M.ka c3)), (b 8, eD aC 16 (dA M.kx M.xb)), (b 10, eZ aC 192 M.ai)] := e9
          subst e9
          refine lv_iinc (v := iI (t + 1)) (lv' := [(2, .int (iI (t + 1))), (1, .int (iI i)), (0, .ref (b 0))]) hx hb d_Mo_activity_52 hl (k := 0) rfl (iI_add _ _) (by decide) rfl (fun ls hl => ?_)
          refine lv_goto (tgt := 6) hx hb d_Mo_activity_55 (by decide) ?_
          exact ih (t + 1) s2 g1_2 g2_2 g3_2 g4_2 g5_2 p2_2 _ _ ls (by omega) (by rw [su_s (by omega), show mA M i t = _ from if_pos c_25, ← Int.add_assoc]; exact hs2) (by omega) hP hD hS (lv_sub hl [0, 1, 2] rfl)
  exact L6 _ 0 s1 f1 f2 f3 f4 f5 p2 _ _ ls (by omega) (by rw [su_i]; exact hs0) (n_lt _) hP hD hS (lv_sub hl [0, 2, 1] rfl)
set_option maxHeartbeats 4000000 in
set_option maxRecDepth 100000 in
theorem c_Mo_reduced (l : Launch) (D : va_G) (aC : Nat → ClassId) (b : Nat → Nat) (M : MS) (hM : MI M) (er p2 : Int) (f f1 f2 f3 f4 f5 : Int → Int) (j : Int) (hj : 0 ≤ j ∧ j < 16) : CT l D aC y_Mo_reduced (rd 3 97) [.ref (b 0), .int (iI j)] [(b 16, eI aC 440 f), (b 18, eI aC 1200 f1), (b 19, eI aC 1200 f2), (b 20, eI aC 1200 f3), (b 21, eI aC 1200 f4), (b 22, eI aC 1200 f5), (b 0, .inr (6, [.int (iI er), .int (iI M.rw), .int (iI M.cn), .int (iI M.en), .int (iI M.pr), .double (dM M.ko (-3)), .ref (b 1), .ref (b 2), .ref (b 3), .ref (b 4), .ref (b 5), .ref (b 6), .ref (b 7), .ref (b 8), .ref (b 9), .ref (b 10), .ref (b 11), .ref (b 12), .ref (b 13), .ref (b 14), .ref (b 15), .int (iI p2), .ref (b 16), .ref (b 17), .ref (b 18), .ref (b 19), .ref (b 20), .ref (b 21), .ref (b 22)])), (b 1, eD aC 192 (dA M.ka c3)), (b 2, eD aC 16 (dA M.kc c3)), (b 3, eD aC 256 (dA M.kq c3)), (b 8, eD aC 16 (dA M.kx M.xb)), (b 9, eD aC 12 (dA M.ky M.yb)), (b 10, eZ aC 192 M.ai), (b 11, eZ aC 256 M.qi)] (fun v w => v = none ∧ ∃ (h g1 g2 g3 g4 g5 : Int → Int) (p2' : Int), w = [(b 16, eI aC 440 h), (b 18, eI aC 1200 g1), (b 19, eI aC 1200 g2), (b 20, eI aC 1200 g3), (b 21, eI aC 1200 g4), (b 22, eI aC 1200 g5), (b 0, .inr (6, [.int (iI er), .int (iI M.rw), .int (iI M.cn), .int (iI M.en), .int (iI M.pr), .double (dM M.ko (-3)), .ref (b 1), .ref (b 2), .ref (b 3), .ref (b 4), .ref (b 5), .ref (b 6), .ref (b 7), .ref (b 8), .ref (b 9), .ref (b 10), .ref (b 11), .ref (b 12), .ref (b 13), .ref (b 14), .ref (b 15), .int (iI p2'), .ref (b 16), .ref (b 17), .ref (b 18), .ref (b 19), .ref (b 20), .ref (b 21), .ref (b 22)])), (b 1, eD aC 192 (dA M.ka c3)), (b 2, eD aC 16 (dA M.kc c3)), (b 3, eD aC 256 (dA M.kq c3)), (b 8, eD aC 16 (dA M.kx M.xb)), (b 9, eD aC 12 (dA M.ky M.yb)), (b 10, eZ aC 192 M.ai), (b 11, eZ aC 256 M.qi)] ∧ SumOk h (0 + U3 0 (M.kc j) (-3) 1 0 1 0 0 + su (mQ M j) M.cn.toNat + su (mY M j) M.rw.toNat)) := by
  refine CT.of (cc := b_Mo_reduced) (maxL := 3) (ret := none) (by decide +kernel) k_Mo_reduced (Nat.le_of_ble_eq_true rfl) ?_
  intro p e s m below meth c Q S hr hlocks hQ hK hN hP hD hS ls hl
  obtain ⟨hx, hb, hml, hown, hts⟩ := id S
  have hl : lv_has ls 3 [(0, .ref (b 0)), (1, .int (iI j))] := hl
  have hrw := hM.rw
  have hcn := hM.cn
  refine lv_aload_n hx hb d_Mo_reduced_0 rfl (lv_at hl 0 rfl) ?_
  refine x_callV0F S (c_Mo_zero l D aC b M er p2 f) t_Mo_165 (rm_ok (by decide) (by decide)) hK hN hP hD hS [0] [6] rfl rfl (fun w9 hw => by obtain ⟨s1, rfl, hs1⟩ := hw; exact ⟨rfl, Nat.le_of_ble_eq_true rfl⟩) 1 6 rfl rfl rfl hl.1 rfl (Nat.le_of_ble_eq_true rfl) d_Mo_reduced_1 ⟨Nat.zero_le _, Nat.zero_le _⟩ (fun w1 ws1 H locs e9 hw hP hD hS => ?_)
  obtain ⟨s1, rfl, hs1⟩ := hw
  have e9 : ws1 = [(b 16, eI aC 440 s1), (b 18, eI aC 1200 f1), (b 19, eI aC 1200 f2), (b 20, eI aC 1200 f3), (b 21, eI aC 1200 f4), (b 22, eI aC 1200 f5), (b 0, .inr (6, [.int (iI er), .int (iI M.rw), .int (iI M.cn), .int (iI M.en), .int (iI M.pr), .double (dM M.ko (-3)), .ref (b 1), .ref (b 2), .ref (b 3), .ref (b 4), .ref (b 5), .ref (b 6), .ref (b 7), .ref (b 8), .ref (b 9), .ref (b 10), .ref (b 11), .ref (b 12), .ref (b 13), .ref (b 14), .ref (b 15), .int (iI p2), .ref (b 16), .ref (b 17), .ref (b 18), .ref (b 19), .ref (b 20), .ref (b 21), .ref (b 22)])), (b 1, eD aC 192 (dA M.ka c3)), (b 2, eD aC 16 (dA M.kc c3)), (b 3, eD aC 256 (dA M.kq c3)), (b 8, eD aC 16 (dA M.kx M.xb)), (b 9, eD aC 12 (dA M.ky M.yb)), (b 10, eZ aC 192 M.ai), (b 11, eZ aC 256 M.qi)] := e9
  subst e9
  refine lv_aload_n hx hb d_Mo_reduced_4 rfl (lv_at hl 0 rfl) ?_
  refine lv_aload_n hx hb d_Mo_reduced_5 rfl (lv_at hl 0 rfl) ?_
  refine va_get (D := D) (ci := 6) (v := .ref (b 2)) (C := R_Mo) (T := F_Mo) (N := 29) hx hb hts i_Mo hown hK hP 6 rfl rfl 7 (by decide) (hts _ wf_Mo_13) (fun _ h9 => h9) rfl d_Mo_reduced_6 ?_
  refine lv_iload_n hx hb d_Mo_reduced_9 rfl (lv_at hl 1 rfl) ?_
  have hkj := hM.kc j (by omega) (by omega)
  refine x_dald hx hb hK hP 8 rfl (by omega) (by decide) d_Mo_reduced_10 ?_
  refine x_topd _ _ (M.kc j) (-3) rfl ?_
  refine x_dconst1 hx hb d_Mo_reduced_11 ?_
  refine x_dconst1 hx hb d_Mo_reduced_12 ?_
  refine lv_iconst (v := iI 0) hx hb d_Mo_reduced_13 rfl ?_
  refine lv_iconst (v := iI 0) hx hb d_Mo_reduced_14 rfl ?_
  refine x_callV0F S (c_Mo_add l D aC b M er p2 s1 f1 f2 f3 f4 f5 (M.kc j) (-3) 1 0 1 0 0 0 0 (by omega) (by omega) (by omega) (by omega) (by omega) (by omega) (by omega) (by omega) hs1 (by omega)) t_Mo_168 (rm_ok (by decide) (by decide)) hK hN hP hD hS [0, 1, 2, 3, 4, 5, 6] [] rfl rfl (fun w9 hw => by obtain ⟨s2, g1_2, g2_2, g3_2, g4_2, g5_2, p2_2, rfl, hs2⟩ := hw; exact ⟨rfl, Nat.le_of_ble_eq_true rfl⟩) 6 6 rfl rfl rfl hl.1 rfl (Nat.le_of_ble_eq_true rfl) d_Mo_reduced_15 ⟨Nat.zero_le _, Nat.zero_le _⟩ (fun w1 ws1 H locs e9 hw hP hD hS => ?_)
  obtain ⟨s2, g1_2, g2_2, g3_2, g4_2, g5_2, p2_2, rfl, hs2⟩ := hw
  have e9 : ws1 = [(b 16, eI aC 440 s2), (b 18, eI aC 1200 g1_2), (b 19, eI aC 1200 g2_2), (b 20, eI aC 1200 g3_2), (b 21, eI aC 1200 g4_2), (b 22, eI aC 1200 g5_2), (b 0, .inr (6, [.int (iI er), .int (iI M.rw), .int (iI M.cn), .int (iI M.en), .int (iI M.pr), .double (dM M.ko (-3)), .ref (b 1), .ref (b 2), .ref (b 3), .ref (b 4), .ref (b 5), .ref (b 6), .ref (b 7), .ref (b 8), .ref (b 9), .ref (b 10), .ref (b 11), .ref (b 12), .ref (b 13), .ref (b 14), .ref (b 15), .int (iI p2_2), .ref (b 16), .ref (b 17), .ref (b 18), .ref (b 19), .ref (b 20), .ref (b 21), .ref (b 22)])), (b 1, eD aC 192 (dA M.ka c3)), (b 2, eD aC 16 (dA M.kc c3)), (b 3, eD aC 256 (dA M.kq c3)), (b 8, eD aC 16 (dA M.kx M.xb)), (b 9, eD aC 12 (dA M.ky M.yb)), (b 10, eZ aC 192 M.ai), (b 11, eZ aC 256 M.qi)] := e9
  subst e9
  refine lv_iconst (v := iI 0) hx hb d_Mo_reduced_18 rfl ?_
  refine lv_istore_n (lv' := [(2, .int (iI 0)), (0, .ref (b 0)), (1, .int (iI j))]) hx hb d_Mo_reduced_19 rfl hl (by decide) rfl (fun ls hl => ?_)
  have hs0 := hs2
  have L20 : ∀ (nn : Nat) (t : Int) (h : Int → Int) (e1 : Int → Int) (e2 : Int → Int) (e3 : Int → Int) (e4 : Int → Int) (e5 : Int → Int) (p2' : Int) (H : Heap) (locs : List Loc) (ls : Array Slot), (0 ≤ t ∧ t ≤ M.cn) → (SumOk h (0 + U3 0 (M.kc j) (-3) 1 0 1 0 0 + su (mQ M j) t.toNat)) → M.cn - t < (nn : Int) → va_P D CL [(b 16, eI aC 440 h), (b 18, eI aC 1200 e1), (b 19, eI aC 1200 e2), (b 20, eI aC 1200 e3), (b 21, eI aC 1200 e4), (b 22, eI aC 1200 e5), (b 0, .inr (6, [.int (iI er), .int (iI M.rw), .int (iI M.cn), .int (iI M.en), .int (iI M.pr), .double (dM M.ko (-3)), .ref (b 1), .ref (b 2), .ref (b 3), .ref (b 4), .ref (b 5), .ref (b 6), .ref (b 7), .ref (b 8), .ref (b 9), .ref (b 10), .ref (b 11), .ref (b 12), .ref (b 13), .ref (b 14), .ref (b 15), .int (iI p2'), .ref (b 16), .ref (b 17), .ref (b 18), .ref (b 19), .ref (b 20), .ref (b 21), .ref (b 22)])), (b 1, eD aC 192 (dA M.ka c3)), (b 2, eD aC 16 (dA M.kc c3)), (b 3, eD aC 256 (dA M.kq c3)), (b 8, eD aC 16 (dA M.kx M.xb)), (b 9, eD aC 12 (dA M.ky M.yb)), (b 10, eZ aC 192 M.ai), (b 11, eZ aC 256 M.qi)] H → va_D (aW [(b 16, eI aC 440 f), (b 18, eI aC 1200 f1), (b 19, eI aC 1200 f2), (b 20, eI aC 1200 f3), (b 21, eI aC 1200 f4), (b 22, eI aC 1200 f5), (b 0, .inr (6, [.int (iI er), .int (iI M.rw), .int (iI M.cn), .int (iI M.en), .int (iI M.pr), .double (dM M.ko (-3)), .ref (b 1), .ref (b 2), .ref (b 3), .ref (b 4), .ref (b 5), .ref (b 6), .ref (b 7), .ref (b 8), .ref (b 9), .ref (b 10), .ref (b 11), .ref (b 12), .ref (b 13), .ref (b 14), .ref (b 15), .int (iI p2), .ref (b 16), .ref (b 17), .ref (b 18), .ref (b 19), .ref (b 20), .ref (b 21), .ref (b 22)])), (b 1, eD aC 192 (dA M.ka c3)), (b 2, eD aC 16 (dA M.kc c3)), (b 3, eD aC 256 (dA M.kq c3)), (b 8, eD aC 16 (dA M.kx M.xb)), (b 9, eD aC 12 (dA M.ky M.yb)), (b 10, eZ aC 192 M.ai), (b 11, eZ aC 256 M.qi)]) [(b 16, eI aC 440 h), (b 18, eI aC 1200 e1), (b 19, eI aC 1200 e2), (b 20, eI aC 1200 e3), (b 21, eI aC 1200 e4), (b 22, eI aC 1200 e5), (b 0, .inr (6, [.int (iI er), .int (iI M.rw), .int (iI M.cn), .int (iI M.en), .int (iI M.pr), .double (dM M.ko (-3)), .ref (b 1), .ref (b 2), .ref (b 3), .ref (b 4), .ref (b 5), .ref (b 6), .ref (b 7), .ref (b 8), .ref (b 9), .ref (b 10), .ref (b 11), .ref (b 12), .ref (b 13), .ref (b 14), .ref (b 15), .int (iI p2'), .ref (b 16), .ref (b 17), .ref (b 18), .ref (b 19), .ref (b 20), .ref (b 21), .ref (b 22)])), (b 1, eD aC 192 (dA M.ka c3)), (b 2, eD aC 16 (dA M.kc c3)), (b 3, eD aC 256 (dA M.kq c3)), (b 8, eD aC 16 (dA M.kx M.xb)), (b 9, eD aC 12 (dA M.ky M.yb)), (b 10, eZ aC 192 M.ai), (b 11, eZ aC 256 M.qi)] → va_S (aW [(b 16, eI aC 440 f), (b 18, eI aC 1200 f1), (b 19, eI aC 1200 f2), (b 20, eI aC 1200 f3), (b 21, eI aC 1200 f4), (b 22, eI aC 1200 f5), (b 0, .inr (6, [.int (iI er), .int (iI M.rw), .int (iI M.cn), .int (iI M.en), .int (iI M.pr), .double (dM M.ko (-3)), .ref (b 1), .ref (b 2), .ref (b 3), .ref (b 4), .ref (b 5), .ref (b 6), .ref (b 7), .ref (b 8), .ref (b 9), .ref (b 10), .ref (b 11), .ref (b 12), .ref (b 13), .ref (b 14), .ref (b 15), .int (iI p2), .ref (b 16), .ref (b 17), .ref (b 18), .ref (b 19), .ref (b 20), .ref (b 21), .ref (b 22)])), (b 1, eD aC 192 (dA M.ka c3)), (b 2, eD aC 16 (dA M.kc c3)), (b 3, eD aC 256 (dA M.kq c3)), (b 8, eD aC 16 (dA M.kx M.xb)), (b 9, eD aC 12 (dA M.ky M.yb)), (b 10, eZ aC 192 M.ai), (b 11, eZ aC 256 M.qi)]) s.heap H locs → lv_has ls 3 [(2, .int (iI t)), (1, .int (iI j)), (0, .ref (b 0))] → W p l e (rd 3 97) s m ([.ref (b 0), .int (iI j)]).toArray below meth c H locs 0 0 Q (F0 m 20 ls []) := by
    intro nn
    induction nn with
    | zero => intro t h e1 e2 e3 e4 e5 p2' H locs ls ht hs hnn; exact absurd hnn (by omega)
    | succ nn ih =>
      intro t h e1 e2 e3 e4 e5 p2' H locs ls ht hs hnn hP hD hS hl
      refine lv_iload_n hx hb d_Mo_reduced_20 rfl (lv_at hl 0 rfl) ?_
      refine lv_aload_n hx hb d_Mo_reduced_21 rfl (lv_at hl 2 rfl) ?_
      refine va_get (D := D) (ci := 6) (v := .int (iI M.cn)) (C := R_Mo) (T := F_Mo) (N := 29) hx hb hts i_Mo hown hK hP 6 rfl rfl 2 (by decide) (hts _ wf_Mo_130) (fun _ h9 => h9) rfl d_Mo_reduced_22 ?_
      refine x_icmp_ge (tgt := 72) hx hb d_Mo_reduced_25 (by decide) (by omega) (by omega) (fun c_25 => ?_) (fun c_25 => ?_)
      · refine lv_iconst (v := iI 0) hx hb d_Mo_reduced_72 rfl ?_
        refine lv_istore_n (lv' := [(2, .int (iI 0)), (1, .int (iI j)), (0, .ref (b 0))]) hx hb d_Mo_reduced_73 rfl hl (by decide) rfl (fun ls hl => ?_)
        have hs0 : SumOk h (0 + U3 0 (M.kc j) (-3) 1 0 1 0 0 + su (mQ M j) M.cn.toNat) := by rw [show M.cn = t by omega]; exact hs
        have L74 : ∀ (nn : Nat) (t : Int) (h2 : Int → Int) (e1 : Int → Int) (e2 : Int → Int) (e3 : Int → Int) (e4 : Int → Int) (e5 : Int → Int) (p2' : Int) (H : Heap) (locs : List Loc) (ls : Array Slot), (0 ≤ t ∧ t ≤ M.rw) → (SumOk h2 (0 + U3 0 (M.kc j) (-3) 1 0 1 0 0 + su (mQ M j) M.cn.toNat + su (mY M j) t.toNat)) → M.rw - t < (nn : Int) → va_P D CL [(b 16, eI aC 440 h2), (b 18, eI aC 1200 e1), (b 19, eI aC 1200 e2), (b 20, eI aC 1200 e3), (b 21, eI aC 1200 e4), (b 22, eI aC 1200 e5), (b 0, .inr (6, [.int (iI er), .int (iI M.rw), .int (iI M.cn), .int (iI M.en), .int (iI M.pr), .double (dM M.ko (-3)), .ref (b 1), .ref (b 2), .ref (b 3), .ref (b 4), .ref (b 5), .ref (b 6), .ref (b 7), .ref (b 8), .ref (b 9), .ref (b 10), .ref (b 11), .ref (b 12), .ref (b 13), .ref (b 14), .ref (b 15), .int (iI p2'), .ref (b 16), .ref (b 17), .ref (b 18), .ref (b 19), .ref (b 20), .ref (b 21), .ref (b 22)])), (b 1, eD aC 192 (dA M.ka c3)), (b 2, eD aC 16 (dA M.kc c3)), (b 3, eD aC 256 (dA M.kq c3)), (b 8, eD aC 16 (dA M.kx M.xb)), (b 9, eD aC 12 (dA M.ky M.yb)), (b 10, eZ aC 192 M.ai), (b 11, eZ aC 256 M.qi)] H → va_D (aW [(b 16, eI aC 440 f), (b 18, eI aC 1200 f1), (b 19, eI aC 1200 f2), (b 20, eI aC 1200 f3), (b 21, eI aC 1200 f4), (b 22, eI aC 1200 f5), (b 0, .inr (6, [.int (iI er), .int (iI M.rw), .int (iI M.cn), .int (iI M.en), .int (iI M.pr), .double (dM M.ko (-3)), .ref (b 1), .ref (b 2), .ref (b 3), .ref (b 4), .ref (b 5), .ref (b 6), .ref (b 7), .ref (b 8), .ref (b 9), .ref (b 10), .ref (b 11), .ref (b 12), .ref (b 13), .ref (b 14), .ref (b 15), .int (iI p2), .ref (b 16), .ref (b 17), .ref (b 18), .ref (b 19), .ref (b 20), .ref (b 21), .ref (b 22)])), (b 1, eD aC 192 (dA M.ka c3)), (b 2, eD aC 16 (dA M.kc c3)), (b 3, eD aC 256 (dA M.kq c3)), (b 8, eD aC 16 (dA M.kx M.xb)), (b 9, eD aC 12 (dA M.ky M.yb)), (b 10, eZ aC 192 M.ai), (b 11, eZ aC 256 M.qi)]) [(b 16, eI aC 440 h2), (b 18, eI aC 1200 e1), (b 19, eI aC 1200 e2), (b 20, eI aC 1200 e3), (b 21, eI aC 1200 e4), (b 22, eI aC 1200 e5), (b 0, .inr (6, [.int (iI er), .int (iI M.rw), .int (iI M.cn), .int (iI M.en), .int (iI M.pr), .double (dM M.ko (-3)), .ref (b 1), .ref (b 2), .ref (b 3), .ref (b 4), .ref (b 5), .ref (b 6), .ref (b 7), .ref (b 8), .ref (b 9), .ref (b 10), .ref (b 11), .ref (b 12), .ref (b 13), .ref (b 14), .ref (b 15), .int (iI p2'), .ref (b 16), .ref (b 17), .ref (b 18), .ref (b 19), .ref (b 20), .ref (b 21), .ref (b 22)])), (b 1, eD aC 192 (dA M.ka c3)), (b 2, eD aC 16 (dA M.kc c3)), (b 3, eD aC 256 (dA M.kq c3)), (b 8, eD aC 16 (dA M.kx M.xb)), (b 9, eD aC 12 (dA M.ky M.yb)), (b 10, eZ aC 192 M.ai), (b 11, eZ aC 256 M.qi)] → va_S (aW [(b 16, eI aC 440 f), (b 18, eI aC 1200 f1), (b 19, eI aC 1200 f2), (b 20, eI aC 1200 f3), (b 21, eI aC 1200 f4), (b 22, eI aC 1200 f5), (b 0, .inr (6, [.int (iI er), .int (iI M.rw), .int (iI M.cn), .int (iI M.en), .int (iI M.pr), .double (dM M.ko (-3)), .ref (b 1), .ref (b 2), .ref (b 3), .ref (b 4), .ref (b 5), .ref (b 6), .ref (b 7), .ref (b 8), .ref (b 9), .ref (b 10), .ref (b 11), .ref (b 12), .ref (b 13), .ref (b 14), .ref (b 15), .int (iI p2), .ref (b 16), .ref (b 17), .ref (b 18), .ref (b 19), .ref (b 20), .ref (b 21), .ref (b 22)])), (b 1, eD aC 192 (dA M.ka c3)), (b 2, eD aC 16 (dA M.kc c3)), (b 3, eD aC 256 (dA M.kq c3)), (b 8, eD aC 16 (dA M.kx M.xb)), (b 9, eD aC 12 (dA M.ky M.yb)), (b 10, eZ aC 192 M.ai), (b 11, eZ aC 256 M.qi)]) s.heap H locs → lv_has ls 3 [(2, .int (iI t)), (1, .int (iI j)), (0, .ref (b 0))] → W p l e (rd 3 97) s m ([.ref (b 0), .int (iI j)]).toArray below meth c H locs 0 0 Q (F0 m 74 ls []) := by
          intro nn74
          induction nn74 with
          | zero => intro t h2 e1 e2 e3 e4 e5 p2' H locs ls ht hs hnn74; exact absurd hnn74 (by omega)
          | succ nn74 ih74 =>
            intro t h2 e1 e2 e3 e4 e5 p2' H locs ls ht hs hnn74 hP hD hS hl
            refine lv_iload_n hx hb d_Mo_reduced_74 rfl (lv_at hl 0 rfl) ?_
            refine lv_aload_n hx hb d_Mo_reduced_75 rfl (lv_at hl 2 rfl) ?_
            refine va_get (D := D) (ci := 6) (v := .int (iI M.rw)) (C := R_Mo) (T := F_Mo) (N := 29) hx hb hts i_Mo hown hK hP 6 rfl rfl 1 (by decide) (hts _ wf_Mo_127) (fun _ h9 => h9) rfl d_Mo_reduced_76 ?_
            refine x_icmp_ge (tgt := 126) hx hb d_Mo_reduced_79 (by decide) (by omega) (by omega) (fun c_79 => ?_) (fun c_79 => ?_)
            · exact x_vret hx hb hr hlocks hQ (⟨rfl, h2, e1, e2, e3, e4, e5, p2', rfl, by rw [show M.rw = t by omega]; exact hs⟩) rfl hP hS d_Mo_reduced_126
            · refine lv_aload_n hx hb d_Mo_reduced_82 rfl (lv_at hl 2 rfl) ?_
              refine va_get (D := D) (ci := 6) (v := .ref (b 10)) (C := R_Mo) (T := F_Mo) (N := 29) hx hb hts i_Mo hown hK hP 6 rfl rfl 15 (by decide) (hts _ wf_Mo_37) (fun _ h9 => h9) rfl d_Mo_reduced_83 ?_
              refine lv_bipush (v := iI 16) hx hb d_Mo_reduced_86 (by decide +kernel) ?_
              refine lv_iload_n hx hb d_Mo_reduced_88 rfl (lv_at hl 0 rfl) ?_
              refine x_imul hx hb d_Mo_reduced_89 ?_
              refine lv_iload_n hx hb d_Mo_reduced_90 rfl (lv_at hl 1 rfl) ?_
              refine x_iadd hx hb d_Mo_reduced_91 ?_
              have hk1 := hM.ka (16 * t + j) (by omega) (by omega)
              have hk2 := hM.ky t (by omega) (by omega)
              have hk3 := hM.yb t (by omega) (by omega)
              have hk4 := hM.ai (16 * t + j) (by omega) (by omega)
              refine x_zald hx hb hK hP 12 rfl (by omega) (by decide) d_Mo_reduced_92 ?_
              refine x_if_eq (tgt := 120) hx hb d_Mo_reduced_93 (by decide) (by omega) (fun c_93 => ?_) (fun c_93 => ?_)
              · refine lv_iinc (v := iI (t + 1)) (lv' := [(2, .int (iI (t + 1))), (1, .int (iI j)), (0, .ref (b 0))]) hx hb d_Mo_reduced_120 hl (k := 0) rfl (iI_add _ _) (by decide) rfl (fun ls hl => ?_)
                refine lv_goto (tgt := 74) hx hb d_Mo_reduced_123 (by decide) ?_
                exact ih74 (t + 1) h2 e1 e2 e3 e4 e5 p2' _ _ ls (by omega) (by rw [su_s (by omega), show mY M j t = 0 from if_neg (fun z => z c_93), Int.add_zero]; exact hs) (by omega) hP hD hS (lv_sub hl [0, 1, 2] rfl)
              · refine lv_aload_n hx hb d_Mo_reduced_96 rfl (lv_at hl 2 rfl) ?_
                refine lv_aload_n hx hb d_Mo_reduced_97 rfl (lv_at hl 2 rfl) ?_
                refine va_get (D := D) (ci := 6) (v := .ref (b 1)) (C := R_Mo) (T := F_Mo) (N := 29) hx hb hts i_Mo hown hK hP 6 rfl rfl 6 (by decide) (hts _ wf_Mo_9) (fun _ h9 => h9) rfl d_Mo_reduced_98 ?_
                refine lv_bipush (v := iI 16) hx hb d_Mo_reduced_101 (by decide +kernel) ?_
                refine lv_iload_n hx hb d_Mo_reduced_103 rfl (lv_at hl 0 rfl) ?_
                refine x_imul hx hb d_Mo_reduced_104 ?_
                refine lv_iload_n hx hb d_Mo_reduced_105 rfl (lv_at hl 1 rfl) ?_
                refine x_iadd hx hb d_Mo_reduced_106 ?_
                refine x_dald hx hb hK hP 7 rfl (by omega) (by decide) d_Mo_reduced_107 ?_
                refine x_topd _ _ (M.ka ((16 * t) + j)) (-3) rfl ?_
                refine lv_aload_n hx hb d_Mo_reduced_108 rfl (lv_at hl 2 rfl) ?_
                refine va_get (D := D) (ci := 6) (v := .ref (b 9)) (C := R_Mo) (T := F_Mo) (N := 29) hx hb hts i_Mo hown hK hP 6 rfl rfl 14 (by decide) (hts _ wf_Mo_34) (fun _ h9 => h9) rfl d_Mo_reduced_109 ?_
                refine lv_iload_n hx hb d_Mo_reduced_112 rfl (lv_at hl 0 rfl) ?_
                refine x_dald hx hb hK hP 11 rfl (by omega) (by decide) d_Mo_reduced_113 ?_
                refine x_dconst1 hx hb d_Mo_reduced_114 ?_
                refine lv_iconst (v := iI 0) hx hb d_Mo_reduced_115 rfl ?_
                refine lv_iconst (v := iI 1) hx hb d_Mo_reduced_116 rfl ?_
                refine x_callV0F S (c_Mo_add l D aC b M er p2' h2 e1 e2 e3 e4 e5 (M.ka ((16 * t) + j)) (-3) (M.ky t) (M.yb t) 1 0 0 1 (0 + U3 0 (M.kc j) (-3) 1 0 1 0 0 + su (mQ M j) M.cn.toNat + su (mY M j) t.toNat) (by omega) (by omega) (by omega) (by omega) (by omega) (by omega) (by omega) (by omega) hs (by omega)) t_Mo_168 (rm_ok (by decide) (by decide)) hK hN hP hD hS [0, 1, 2, 3, 4, 5, 6] [] rfl rfl (fun w9 hw => by obtain ⟨s3, g1_3, g2_3, g3_3, g4_3, g5_3, p2_3, rfl, hs3⟩ := hw; exact ⟨rfl, Nat.le_of_ble_eq_true rfl⟩) 6 6 rfl rfl rfl hl.1 rfl (Nat.le_of_ble_eq_true rfl) d_Mo_reduced_117 ⟨Nat.zero_le _, Nat.zero_le _⟩ (fun w1 ws1 H locs e9 hw hP hD hS => ?_)
                obtain ⟨s3, g1_3, g2_3, g3_3, g4_3, g5_3, p2_3, rfl, hs3⟩ := hw
                have e9 : ws1 = [(b 16, eI aC 440 s3), (b 18, eI aC 1200 g1_3), (b 19, eI aC 1200 g2_3), (b 20, eI aC 1200 g3_3), (b 21, eI aC 1200 g4_3), (b 22, eI aC 1200 g5_3), (b 0, .inr (6, [.int (iI er), .int (iI M.rw), .int (iI M.cn), .int (iI M.en), .int (iI M.pr), .double (dM M.ko (-3)), .ref (b 1), .ref (b 2), .ref (b 3), .ref (b 4), .ref (b 5), .ref (b 6), .ref (b 7), .ref (b 8), .ref (b 9), .ref (b 10), .ref (b 11), .ref (b 12), .ref (b 13), .ref (b 14), .ref (b 15), .int (iI p2_3), .ref (b 16), .ref (b 17), .ref (b 18), .ref (b 19), .ref (b 20), .ref (b 21), .ref (b 22)])), (b 1, eD aC 192 (dA M.ka c3)), (b 2, eD aC 16 (dA M.kc c3)), (b 3, eD aC 256 (dA M.kq c3)), (b 8, eD aC 16 (dA M.kx M.xb)), (b 9, eD aC 12 (dA M.ky M.yb)), (b 10, eZ aC 192 M.ai), (b 11, eZ aC 256 M.qi)] := e9
                subst e9
                refine lv_iinc (v := iI (t + 1)) (lv' := [(2, .int (iI (t + 1))), (1, .int (iI j)), (0, .ref (b 0))]) hx hb d_Mo_reduced_120 hl (k := 0) rfl (iI_add _ _) (by decide) rfl (fun ls hl => ?_)
                refine lv_goto (tgt := 74) hx hb d_Mo_reduced_123 (by decide) ?_
                exact ih74 (t + 1) s3 g1_3 g2_3 g3_3 g4_3 g5_3 p2_3 _ _ ls (by omega) (by rw [su_s (by omega), show mY M j t = _ from if_pos c_93, ← Int.add_assoc]; exact hs3) (by omega) hP hD hS (lv_sub hl [0, 1, 2] rfl)
        exact L74 _ 0 h e1 e2 e3 e4 e5 p2' _ _ ls (by omega) (by rw [su_i]; exact hs0) (n_lt _) hP hD hS (lv_sub hl [0, 1, 2] rfl)
      · refine lv_aload_n hx hb d_Mo_reduced_28 rfl (lv_at hl 2 rfl) ?_
        refine va_get (D := D) (ci := 6) (v := .ref (b 11)) (C := R_Mo) (T := F_Mo) (N := 29) hx hb hts i_Mo hown hK hP 6 rfl rfl 16 (by decide) (hts _ wf_Mo_41) (fun _ h9 => h9) rfl d_Mo_reduced_29 ?_
        refine lv_bipush (v := iI 16) hx hb d_Mo_reduced_32 (by decide +kernel) ?_
        refine lv_iload_n hx hb d_Mo_reduced_34 rfl (lv_at hl 0 rfl) ?_
        refine x_imul hx hb d_Mo_reduced_35 ?_
        refine lv_iload_n hx hb d_Mo_reduced_36 rfl (lv_at hl 1 rfl) ?_
        refine x_iadd hx hb d_Mo_reduced_37 ?_
        have hk1 := hM.kq (16 * t + j) (by omega) (by omega)
        have hk2 := hM.kx t (by omega) (by omega)
        have hk3 := hM.xb t (by omega) (by omega)
        have hk4 := hM.qi (16 * t + j) (by omega) (by omega)
        refine x_zald hx hb hK hP 13 rfl (by omega) (by decide) d_Mo_reduced_38 ?_
        refine x_if_eq (tgt := 66) hx hb d_Mo_reduced_39 (by decide) (by omega) (fun c_39 => ?_) (fun c_39 => ?_)
        · refine lv_iinc (v := iI (t + 1)) (lv' := [(2, .int (iI (t + 1))), (1, .int (iI j)), (0, .ref (b 0))]) hx hb d_Mo_reduced_66 hl (k := 0) rfl (iI_add _ _) (by decide) rfl (fun ls hl => ?_)
          refine lv_goto (tgt := 20) hx hb d_Mo_reduced_69 (by decide) ?_
          exact ih (t + 1) h e1 e2 e3 e4 e5 p2' _ _ ls (by omega) (by rw [su_s (by omega), show mQ M j t = 0 from if_neg (fun z => z c_39), Int.add_zero]; exact hs) (by omega) hP hD hS (lv_sub hl [0, 1, 2] rfl)
        · refine lv_aload_n hx hb d_Mo_reduced_42 rfl (lv_at hl 2 rfl) ?_
          refine lv_aload_n hx hb d_Mo_reduced_43 rfl (lv_at hl 2 rfl) ?_
          refine va_get (D := D) (ci := 6) (v := .ref (b 3)) (C := R_Mo) (T := F_Mo) (N := 29) hx hb hts i_Mo hown hK hP 6 rfl rfl 8 (by decide) (hts _ wf_Mo_16) (fun _ h9 => h9) rfl d_Mo_reduced_44 ?_
          refine lv_bipush (v := iI 16) hx hb d_Mo_reduced_47 (by decide +kernel) ?_
          refine lv_iload_n hx hb d_Mo_reduced_49 rfl (lv_at hl 0 rfl) ?_
          refine x_imul hx hb d_Mo_reduced_50 ?_
          refine lv_iload_n hx hb d_Mo_reduced_51 rfl (lv_at hl 1 rfl) ?_
          refine x_iadd hx hb d_Mo_reduced_52 ?_
          refine x_dald hx hb hK hP 9 rfl (by omega) (by decide) d_Mo_reduced_53 ?_
          refine x_topd _ _ (M.kq ((16 * t) + j)) (-3) rfl ?_
          refine lv_aload_n hx hb d_Mo_reduced_54 rfl (lv_at hl 2 rfl) ?_
          refine va_get (D := D) (ci := 6) (v := .ref (b 8)) (C := R_Mo) (T := F_Mo) (N := 29) hx hb hts i_Mo hown hK hP 6 rfl rfl 13 (by decide) (hts _ wf_Mo_31) (fun _ h9 => h9) rfl d_Mo_reduced_55 ?_
          refine lv_iload_n hx hb d_Mo_reduced_58 rfl (lv_at hl 0 rfl) ?_
          refine x_dald hx hb hK hP 10 rfl (by omega) (by decide) d_Mo_reduced_59 ?_
          refine x_dconst1 hx hb d_Mo_reduced_60 ?_
          refine lv_iconst (v := iI 0) hx hb d_Mo_reduced_61 rfl ?_
          refine lv_iconst (v := iI 0) hx hb d_Mo_reduced_62 rfl ?_
          refine x_callV0F S (c_Mo_add l D aC b M er p2' h e1 e2 e3 e4 e5 (M.kq ((16 * t) + j)) (-3) (M.kx t) (M.xb t) 1 0 0 0 (0 + U3 0 (M.kc j) (-3) 1 0 1 0 0 + su (mQ M j) t.toNat) (by omega) (by omega) (by omega) (by omega) (by omega) (by omega) (by omega) (by omega) hs (by omega)) t_Mo_168 (rm_ok (by decide) (by decide)) hK hN hP hD hS [0, 1, 2, 3, 4, 5, 6] [] rfl rfl (fun w9 hw => by obtain ⟨s4, g1_4, g2_4, g3_4, g4_4, g5_4, p2_4, rfl, hs4⟩ := hw; exact ⟨rfl, Nat.le_of_ble_eq_true rfl⟩) 6 6 rfl rfl rfl hl.1 rfl (Nat.le_of_ble_eq_true rfl) d_Mo_reduced_63 ⟨Nat.zero_le _, Nat.zero_le _⟩ (fun w1 ws1 H locs e9 hw hP hD hS => ?_)
          obtain ⟨s4, g1_4, g2_4, g3_4, g4_4, g5_4, p2_4, rfl, hs4⟩ := hw
          have e9 : ws1 = [(b 16, eI aC 440 s4), (b 18, eI aC 1200 g1_4), (b 19, eI aC 1200 g2_4), (b 20, eI aC 1200 g3_4), (b 21, eI aC 1200 g4_4), (b 22, eI aC 1200 g5_4), (b 0, .inr (6, [.int (iI er), .int (iI M.rw), .int (iI M.cn), .int (iI M.en), .int (iI M.pr), .double (dM M.ko (-3)), .ref (b 1), .ref (b 2), .ref (b 3), .ref (b 4), .ref (b 5), .ref (b 6), .ref (b 7), .ref (b 8), .ref (b 9), .ref (b 10), .ref (b 11), .ref (b 12), .ref (b 13), .ref (b 14), .ref (b 15), .int (iI p2_4), .ref (b 16), .ref (b 17), .ref (b 18), .ref (b 19), .ref (b 20), .ref (b 21), .ref (b 22)])), (b 1, eD aC 192 (dA M.ka c3)), (b 2, eD aC 16 (dA M.kc c3)), (b 3, eD aC 256 (dA M.kq c3)), (b 8, eD aC 16 (dA M.kx M.xb)), (b 9, eD aC 12 (dA M.ky M.yb)), (b 10, eZ aC 192 M.ai), (b 11, eZ aC 256 M.qi)] := e9
          subst e9
          refine lv_iinc (v := iI (t + 1)) (lv' := [(2, .int (iI (t + 1))), (1, .int (iI j)), (0, .ref (b 0))]) hx hb d_Mo_reduced_66 hl (k := 0) rfl (iI_add _ _) (by decide) rfl (fun ls hl => ?_)
          refine lv_goto (tgt := 20) hx hb d_Mo_reduced_69 (by decide) ?_
          exact ih (t + 1) s4 g1_4 g2_4 g3_4 g4_4 g5_4 p2_4 _ _ ls (by omega) (by rw [su_s (by omega), show mQ M j t = _ from if_pos c_39, ← Int.add_assoc]; exact hs4) (by omega) hP hD hS (lv_sub hl [0, 1, 2] rfl)
  exact L20 _ 0 s2 g1_2 g2_2 g3_2 g4_2 g5_2 p2_2 _ _ ls (by omega) (by rw [su_i]; exact hs0) (n_lt _) hP hD hS (lv_sub hl [0, 2, 1] rfl)
def mG (M : MS) (hv j : Int) : Int → Int := fun i => if M.qi (16 * i + j) ≠ 0 then U3 0 (M.kq (16 * i + j)) (-3) (M.kx i) (M.xb i) (M.kx j) (M.xb j) (hv - 2) else 0
def mC (M : MS) (hv : Int) : Int → Int := fun j => U3 0 (M.kc j) (-3) (M.kx j) (M.xb j) 1 0 0 + su (mG M hv j) M.cn.toNat
set_option maxHeartbeats 4000000 in
set_option maxRecDepth 100000 in
theorem c_Mo_goal (l : Launch) (D : va_G) (aC : Nat → ClassId) (b : Nat → Nat) (M : MS) (hM : MI M) (er p2 : Int) (f f1 f2 f3 f4 f5 : Int → Int) (hv V : Int) (hhv : hv = 1 ∨ hv = 2) (hs0 : SumOk f V) : CT l D aC y_Mo_goal (rd 3 97) [.ref (b 0), .int (iI hv)] [(b 16, eI aC 440 f), (b 18, eI aC 1200 f1), (b 19, eI aC 1200 f2), (b 20, eI aC 1200 f3), (b 21, eI aC 1200 f4), (b 22, eI aC 1200 f5), (b 0, .inr (6, [.int (iI er), .int (iI M.rw), .int (iI M.cn), .int (iI M.en), .int (iI M.pr), .double (dM M.ko (-3)), .ref (b 1), .ref (b 2), .ref (b 3), .ref (b 4), .ref (b 5), .ref (b 6), .ref (b 7), .ref (b 8), .ref (b 9), .ref (b 10), .ref (b 11), .ref (b 12), .ref (b 13), .ref (b 14), .ref (b 15), .int (iI p2), .ref (b 16), .ref (b 17), .ref (b 18), .ref (b 19), .ref (b 20), .ref (b 21), .ref (b 22)])), (b 2, eD aC 16 (dA M.kc c3)), (b 3, eD aC 256 (dA M.kq c3)), (b 8, eD aC 16 (dA M.kx M.xb)), (b 11, eZ aC 256 M.qi)] (fun v w => v = none ∧ ∃ (h g1 g2 g3 g4 g5 : Int → Int) (p2' : Int), w = [(b 16, eI aC 440 h), (b 18, eI aC 1200 g1), (b 19, eI aC 1200 g2), (b 20, eI aC 1200 g3), (b 21, eI aC 1200 g4), (b 22, eI aC 1200 g5), (b 0, .inr (6, [.int (iI er), .int (iI M.rw), .int (iI M.cn), .int (iI M.en), .int (iI M.pr), .double (dM M.ko (-3)), .ref (b 1), .ref (b 2), .ref (b 3), .ref (b 4), .ref (b 5), .ref (b 6), .ref (b 7), .ref (b 8), .ref (b 9), .ref (b 10), .ref (b 11), .ref (b 12), .ref (b 13), .ref (b 14), .ref (b 15), .int (iI p2'), .ref (b 16), .ref (b 17), .ref (b 18), .ref (b 19), .ref (b 20), .ref (b 21), .ref (b 22)])), (b 2, eD aC 16 (dA M.kc c3)), (b 3, eD aC 256 (dA M.kq c3)), (b 8, eD aC 16 (dA M.kx M.xb)), (b 11, eZ aC 256 M.qi)] ∧ SumOk h (V + su (mC M hv) M.cn.toNat)) := by
  refine CT.of (cc := b_Mo_goal) (maxL := 4) (ret := none) (by decide +kernel) k_Mo_goal (Nat.le_of_ble_eq_true rfl) ?_
  intro p e s m below meth c Q S hr hlocks hQ hK hN hP hD hS ls hl
  obtain ⟨hx, hb, hml, hown, hts⟩ := id S
  have hl : lv_has ls 4 [(0, .ref (b 0)), (1, .int (iI hv))] := hl
  have hrw := hM.rw
  have hcn := hM.cn
  refine lv_iconst (v := iI 0) hx hb d_Mo_goal_0 rfl ?_
  refine lv_istore_n (lv' := [(2, .int (iI 0)), (0, .ref (b 0)), (1, .int (iI hv))]) hx hb d_Mo_goal_1 rfl hl (by decide) rfl (fun ls hl => ?_)
  have L2 : ∀ (nn : Nat) (j : Int) (h : Int → Int) (e1 : Int → Int) (e2 : Int → Int) (e3 : Int → Int) (e4 : Int → Int) (e5 : Int → Int) (p2' : Int) (H : Heap) (locs : List Loc) (ls : Array Slot), (0 ≤ j ∧ j ≤ M.cn) → (SumOk h (V + su (mC M hv) j.toNat)) → M.cn - j < (nn : Int) → va_P D CL [(b 16, eI aC 440 h), (b 18, eI aC 1200 e1), (b 19, eI aC 1200 e2), (b 20, eI aC 1200 e3), (b 21, eI aC 1200 e4), (b 22, eI aC 1200 e5), (b 0, .inr (6, [.int (iI er), .int (iI M.rw), .int (iI M.cn), .int (iI M.en), .int (iI M.pr), .double (dM M.ko (-3)), .ref (b 1), .ref (b 2), .ref (b 3), .ref (b 4), .ref (b 5), .ref (b 6), .ref (b 7), .ref (b 8), .ref (b 9), .ref (b 10), .ref (b 11), .ref (b 12), .ref (b 13), .ref (b 14), .ref (b 15), .int (iI p2'), .ref (b 16), .ref (b 17), .ref (b 18), .ref (b 19), .ref (b 20), .ref (b 21), .ref (b 22)])), (b 2, eD aC 16 (dA M.kc c3)), (b 3, eD aC 256 (dA M.kq c3)), (b 8, eD aC 16 (dA M.kx M.xb)), (b 11, eZ aC 256 M.qi)] H → va_D (aW [(b 16, eI aC 440 f), (b 18, eI aC 1200 f1), (b 19, eI aC 1200 f2), (b 20, eI aC 1200 f3), (b 21, eI aC 1200 f4), (b 22, eI aC 1200 f5), (b 0, .inr (6, [.int (iI er), .int (iI M.rw), .int (iI M.cn), .int (iI M.en), .int (iI M.pr), .double (dM M.ko (-3)), .ref (b 1), .ref (b 2), .ref (b 3), .ref (b 4), .ref (b 5), .ref (b 6), .ref (b 7), .ref (b 8), .ref (b 9), .ref (b 10), .ref (b 11), .ref (b 12), .ref (b 13), .ref (b 14), .ref (b 15), .int (iI p2), .ref (b 16), .ref (b 17), .ref (b 18), .ref (b 19), .ref (b 20), .ref (b 21), .ref (b 22)])), (b 2, eD aC 16 (dA M.kc c3)), (b 3, eD aC 256 (dA M.kq c3)), (b 8, eD aC 16 (dA M.kx M.xb)), (b 11, eZ aC 256 M.qi)]) [(b 16, eI aC 440 h), (b 18, eI aC 1200 e1), (b 19, eI aC 1200 e2), (b 20, eI aC 1200 e3), (b 21, eI aC 1200 e4), (b 22, eI aC 1200 e5), (b 0, .inr (6, [.int (iI er), .int (iI M.rw), .int (iI M.cn), .int (iI M.en), .int (iI M.pr), .double (dM M.ko (-3)), .ref (b 1), .ref (b 2), .ref (b 3), .ref (b 4), .ref (b 5), .ref (b 6), .ref (b 7), .ref (b 8), .ref (b 9), .ref (b 10), .ref (b 11), .ref (b 12), .ref (b 13), .ref (b 14), .ref (b 15), .int (iI p2'), .ref (b 16), .ref (b 17), .ref (b 18), .ref (b 19), .ref (b 20), .ref (b 21), .ref (b 22)])), (b 2, eD aC 16 (dA M.kc c3)), (b 3, eD aC 256 (dA M.kq c3)), (b 8, eD aC 16 (dA M.kx M.xb)), (b 11, eZ aC 256 M.qi)] → va_S (aW [(b 16, eI aC 440 f), (b 18, eI aC 1200 f1), (b 19, eI aC 1200 f2), (b 20, eI aC 1200 f3), (b 21, eI aC 1200 f4), (b 22, eI aC 1200 f5), (b 0, .inr (6, [.int (iI er), .int (iI M.rw), .int (iI M.cn), .int (iI M.en), .int (iI M.pr), .double (dM M.ko (-3)), .ref (b 1), .ref (b 2), .ref (b 3), .ref (b 4), .ref (b 5), .ref (b 6), .ref (b 7), .ref (b 8), .ref (b 9), .ref (b 10), .ref (b 11), .ref (b 12), .ref (b 13), .ref (b 14), .ref (b 15), .int (iI p2), .ref (b 16), .ref (b 17), .ref (b 18), .ref (b 19), .ref (b 20), .ref (b 21), .ref (b 22)])), (b 2, eD aC 16 (dA M.kc c3)), (b 3, eD aC 256 (dA M.kq c3)), (b 8, eD aC 16 (dA M.kx M.xb)), (b 11, eZ aC 256 M.qi)]) s.heap H locs → lv_has ls 4 [(2, .int (iI j)), (1, .int (iI hv)), (0, .ref (b 0))] → W p l e (rd 3 97) s m ([.ref (b 0), .int (iI hv)]).toArray below meth c H locs 0 0 Q (F0 m 2 ls []) := by
    intro nn
    induction nn with
    | zero => intro j h e1 e2 e3 e4 e5 p2' H locs ls hj hs hnn; exact absurd hnn (by omega)
    | succ nn ih =>
      intro j h e1 e2 e3 e4 e5 p2' H locs ls hj hs hnn hP hD hS hl
      refine lv_iload_n hx hb d_Mo_goal_2 rfl (lv_at hl 0 rfl) ?_
      refine lv_aload_n hx hb d_Mo_goal_3 rfl (lv_at hl 2 rfl) ?_
      refine va_get (D := D) (ci := 6) (v := .int (iI M.cn)) (C := R_Mo) (T := F_Mo) (N := 29) hx hb hts i_Mo hown hK hP 6 rfl rfl 2 (by decide) (hts _ wf_Mo_130) (fun _ h9 => h9) rfl d_Mo_goal_4 ?_
      refine x_icmp_ge (tgt := 96) hx hb d_Mo_goal_7 (by decide) (by omega) (by omega) (fun c_7 => ?_) (fun c_7 => ?_)
      · exact x_vret hx hb hr hlocks hQ (⟨rfl, h, e1, e2, e3, e4, e5, p2', rfl, by rw [show M.cn = j by omega]; exact hs⟩) rfl hP hS d_Mo_goal_96
      · have hkj := hM.kc j (by omega) (by omega)
        have hkx := hM.kx j (by omega) (by omega)
        have hkb := hM.xb j (by omega) (by omega)
        refine lv_aload_n hx hb d_Mo_goal_10 rfl (lv_at hl 2 rfl) ?_
        refine lv_aload_n hx hb d_Mo_goal_11 rfl (lv_at hl 2 rfl) ?_
        refine va_get (D := D) (ci := 6) (v := .ref (b 2)) (C := R_Mo) (T := F_Mo) (N := 29) hx hb hts i_Mo hown hK hP 6 rfl rfl 7 (by decide) (hts _ wf_Mo_13) (fun _ h9 => h9) rfl d_Mo_goal_12 ?_
        refine lv_iload_n hx hb d_Mo_goal_15 rfl (lv_at hl 0 rfl) ?_
        refine x_dald hx hb hK hP 7 rfl (by omega) (by decide) d_Mo_goal_16 ?_
        refine x_topd _ _ (M.kc j) (-3) rfl ?_
        refine lv_aload_n hx hb d_Mo_goal_17 rfl (lv_at hl 2 rfl) ?_
        refine va_get (D := D) (ci := 6) (v := .ref (b 8)) (C := R_Mo) (T := F_Mo) (N := 29) hx hb hts i_Mo hown hK hP 6 rfl rfl 13 (by decide) (hts _ wf_Mo_31) (fun _ h9 => h9) rfl d_Mo_goal_18 ?_
        refine lv_iload_n hx hb d_Mo_goal_21 rfl (lv_at hl 0 rfl) ?_
        refine x_dald hx hb hK hP 9 rfl (by omega) (by decide) d_Mo_goal_22 ?_
        refine x_dconst1 hx hb d_Mo_goal_23 ?_
        refine lv_iconst (v := iI 0) hx hb d_Mo_goal_24 rfl ?_
        refine lv_iconst (v := iI 0) hx hb d_Mo_goal_25 rfl ?_
        refine x_callV0F S (c_Mo_add l D aC b M er p2' h e1 e2 e3 e4 e5 (M.kc j) (-3) (M.kx j) (M.xb j) 1 0 0 0 (V + su (mC M hv) j.toNat) (by omega) (by omega) (by omega) (by omega) (by omega) (by omega) (by omega) (by omega) hs (by omega)) t_Mo_168 (rm_ok (by decide) (by decide)) hK hN hP hD hS [0, 1, 2, 3, 4, 5, 6] [] rfl rfl (fun w9 hw => by obtain ⟨s1, g1_1, g2_1, g3_1, g4_1, g5_1, p2_1, rfl, hs1⟩ := hw; exact ⟨rfl, Nat.le_of_ble_eq_true rfl⟩) 6 6 rfl rfl rfl hl.1 rfl (Nat.le_of_ble_eq_true rfl) d_Mo_goal_26 ⟨Nat.zero_le _, Nat.zero_le _⟩ (fun w1 ws1 H locs e9 hw hP hD hS => ?_)
        obtain ⟨s1, g1_1, g2_1, g3_1, g4_1, g5_1, p2_1, rfl, hs1⟩ := hw
        have e9 : ws1 = [(b 16, eI aC 440 s1), (b 18, eI aC 1200 g1_1), (b 19, eI aC 1200 g2_1), (b 20, eI aC 1200 g3_1), (b 21, eI aC 1200 g4_1), (b 22, eI aC 1200 g5_1), (b 0, .inr (6, [.int (iI er), .int (iI M.rw), .int (iI M.cn), .int (iI M.en), .int (iI M.pr), .double (dM M.ko (-3)), .ref (b 1), .ref (b 2), .ref (b 3), .ref (b 4), .ref (b 5), .ref (b 6), .ref (b 7), .ref (b 8), .ref (b 9), .ref (b 10), .ref (b 11), .ref (b 12), .ref (b 13), .ref (b 14), .ref (b 15), .int (iI p2_1), .ref (b 16), .ref (b 17), .ref (b 18), .ref (b 19), .ref (b 20), .ref (b 21), .ref (b 22)])), (b 2, eD aC 16 (dA M.kc c3)), (b 3, eD aC 256 (dA M.kq c3)), (b 8, eD aC 16 (dA M.kx M.xb)), (b 11, eZ aC 256 M.qi)] := e9
        subst e9
        refine lv_iconst (v := iI 0) hx hb d_Mo_goal_29 rfl ?_
        refine lv_istore_n (lv' := [(3, .int (iI 0)), (2, .int (iI j)), (1, .int (iI hv)), (0, .ref (b 0))]) hx hb d_Mo_goal_30 rfl hl (by decide) rfl (fun ls hl => ?_)
        have hs1 := hs1
        have L31 : ∀ (nn : Nat) (t : Int) (h2 : Int → Int) (d1 : Int → Int) (d2 : Int → Int) (d3 : Int → Int) (d4 : Int → Int) (d5 : Int → Int) (p3 : Int) (H : Heap) (locs : List Loc) (ls : Array Slot), (0 ≤ t ∧ t ≤ M.cn) → (SumOk h2 (V + su (mC M hv) j.toNat + U3 0 (M.kc j) (-3) (M.kx j) (M.xb j) 1 0 0 + su (mG M hv j) t.toNat)) → M.cn - t < (nn : Int) → va_P D CL [(b 16, eI aC 440 h2), (b 18, eI aC 1200 d1), (b 19, eI aC 1200 d2), (b 20, eI aC 1200 d3), (b 21, eI aC 1200 d4), (b 22, eI aC 1200 d5), (b 0, .inr (6, [.int (iI er), .int (iI M.rw), .int (iI M.cn), .int (iI M.en), .int (iI M.pr), .double (dM M.ko (-3)), .ref (b 1), .ref (b 2), .ref (b 3), .ref (b 4), .ref (b 5), .ref (b 6), .ref (b 7), .ref (b 8), .ref (b 9), .ref (b 10), .ref (b 11), .ref (b 12), .ref (b 13), .ref (b 14), .ref (b 15), .int (iI p3), .ref (b 16), .ref (b 17), .ref (b 18), .ref (b 19), .ref (b 20), .ref (b 21), .ref (b 22)])), (b 2, eD aC 16 (dA M.kc c3)), (b 3, eD aC 256 (dA M.kq c3)), (b 8, eD aC 16 (dA M.kx M.xb)), (b 11, eZ aC 256 M.qi)] H → va_D (aW [(b 16, eI aC 440 f), (b 18, eI aC 1200 f1), (b 19, eI aC 1200 f2), (b 20, eI aC 1200 f3), (b 21, eI aC 1200 f4), (b 22, eI aC 1200 f5), (b 0, .inr (6, [.int (iI er), .int (iI M.rw), .int (iI M.cn), .int (iI M.en), .int (iI M.pr), .double (dM M.ko (-3)), .ref (b 1), .ref (b 2), .ref (b 3), .ref (b 4), .ref (b 5), .ref (b 6), .ref (b 7), .ref (b 8), .ref (b 9), .ref (b 10), .ref (b 11), .ref (b 12), .ref (b 13), .ref (b 14), .ref (b 15), .int (iI p2), .ref (b 16), .ref (b 17), .ref (b 18), .ref (b 19), .ref (b 20), .ref (b 21), .ref (b 22)])), (b 2, eD aC 16 (dA M.kc c3)), (b 3, eD aC 256 (dA M.kq c3)), (b 8, eD aC 16 (dA M.kx M.xb)), (b 11, eZ aC 256 M.qi)]) [(b 16, eI aC 440 h2), (b 18, eI aC 1200 d1), (b 19, eI aC 1200 d2), (b 20, eI aC 1200 d3), (b 21, eI aC 1200 d4), (b 22, eI aC 1200 d5), (b 0, .inr (6, [.int (iI er), .int (iI M.rw), .int (iI M.cn), .int (iI M.en), .int (iI M.pr), .double (dM M.ko (-3)), .ref (b 1), .ref (b 2), .ref (b 3), .ref (b 4), .ref (b 5), .ref (b 6), .ref (b 7), .ref (b 8), .ref (b 9), .ref (b 10), .ref (b 11), .ref (b 12), .ref (b 13), .ref (b 14), .ref (b 15), .int (iI p3), .ref (b 16), .ref (b 17), .ref (b 18), .ref (b 19), .ref (b 20), .ref (b 21), .ref (b 22)])), (b 2, eD aC 16 (dA M.kc c3)), (b 3, eD aC 256 (dA M.kq c3)), (b 8, eD aC 16 (dA M.kx M.xb)), (b 11, eZ aC 256 M.qi)] → va_S (aW [(b 16, eI aC 440 f), (b 18, eI aC 1200 f1), (b 19, eI aC 1200 f2), (b 20, eI aC 1200 f3), (b 21, eI aC 1200 f4), (b 22, eI aC 1200 f5), (b 0, .inr (6, [.int (iI er), .int (iI M.rw), .int (iI M.cn), .int (iI M.en), .int (iI M.pr), .double (dM M.ko (-3)), .ref (b 1), .ref (b 2), .ref (b 3), .ref (b 4), .ref (b 5), .ref (b 6), .ref (b 7), .ref (b 8), .ref (b 9), .ref (b 10), .ref (b 11), .ref (b 12), .ref (b 13), .ref (b 14), .ref (b 15), .int (iI p2), .ref (b 16), .ref (b 17), .ref (b 18), .ref (b 19), .ref (b 20), .ref (b 21), .ref (b 22)])), (b 2, eD aC 16 (dA M.kc c3)), (b 3, eD aC 256 (dA M.kq c3)), (b 8, eD aC 16 (dA M.kx M.xb)), (b 11, eZ aC 256 M.qi)]) s.heap H locs → lv_has ls 4 [(3, .int (iI t)), (2, .int (iI j)), (1, .int (iI hv)), (0, .ref (b 0))] → W p l e (rd 3 97) s m ([.ref (b 0), .int (iI hv)]).toArray below meth c H locs 0 0 Q (F0 m 31 ls []) := by
          intro nn31
          induction nn31 with
          | zero => intro t h2 d1 d2 d3 d4 d5 p3 H locs ls ht hs2 hnn31; exact absurd hnn31 (by omega)
          | succ nn31 ih31 =>
            intro t h2 d1 d2 d3 d4 d5 p3 H locs ls ht hs2 hnn31 hP hD hS hl
            refine lv_iload_n hx hb d_Mo_goal_31 rfl (lv_at hl 0 rfl) ?_
            refine lv_aload_n hx hb d_Mo_goal_32 rfl (lv_at hl 3 rfl) ?_
            refine va_get (D := D) (ci := 6) (v := .int (iI M.cn)) (C := R_Mo) (T := F_Mo) (N := 29) hx hb hts i_Mo hown hK hP 6 rfl rfl 2 (by decide) (hts _ wf_Mo_130) (fun _ h9 => h9) rfl d_Mo_goal_33 ?_
            refine x_icmp_ge (tgt := 90) hx hb d_Mo_goal_36 (by decide) (by omega) (by omega) (fun c_36 => ?_) (fun c_36 => ?_)
            · refine lv_iinc (v := iI (j + 1)) (lv' := [(2, .int (iI (j + 1))), (3, .int (iI t)), (1, .int (iI hv)), (0, .ref (b 0))]) hx hb d_Mo_goal_90 hl (k := 1) rfl (iI_add _ _) (by decide) rfl (fun ls hl => ?_)
              refine lv_goto (tgt := 2) hx hb d_Mo_goal_93 (by decide) ?_
              exact ih (j + 1) h2 d1 d2 d3 d4 d5 p3 _ _ ls (by omega) (by rw [su_s (by omega), show mC M hv j = U3 0 (M.kc j) (-3) (M.kx j) (M.xb j) 1 0 0 + su (mG M hv j) M.cn.toNat from rfl, ← Int.add_assoc, ← Int.add_assoc, show M.cn = t by omega]; exact hs2) (by omega) hP hD hS (lv_sub hl [0, 2, 3] rfl)
            · refine lv_aload_n hx hb d_Mo_goal_39 rfl (lv_at hl 3 rfl) ?_
              refine va_get (D := D) (ci := 6) (v := .ref (b 11)) (C := R_Mo) (T := F_Mo) (N := 29) hx hb hts i_Mo hown hK hP 6 rfl rfl 16 (by decide) (hts _ wf_Mo_41) (fun _ h9 => h9) rfl d_Mo_goal_40 ?_
              refine lv_bipush (v := iI 16) hx hb d_Mo_goal_43 (by decide +kernel) ?_
              refine lv_iload_n hx hb d_Mo_goal_45 rfl (lv_at hl 0 rfl) ?_
              refine x_imul hx hb d_Mo_goal_46 ?_
              refine lv_iload_n hx hb d_Mo_goal_47 rfl (lv_at hl 1 rfl) ?_
              refine x_iadd hx hb d_Mo_goal_48 ?_
              have hk1 := hM.kq (16 * t + j) (by omega) (by omega)
              have hk2 := hM.kx t (by omega) (by omega)
              have hk3 := hM.xb t (by omega) (by omega)
              have hk4 := hM.qi (16 * t + j) (by omega) (by omega)
              refine x_zald hx hb hK hP 10 rfl (by omega) (by decide) d_Mo_goal_49 ?_
              refine x_if_eq (tgt := 84) hx hb d_Mo_goal_50 (by decide) (by omega) (fun c_50 => ?_) (fun c_50 => ?_)
              · refine lv_iinc (v := iI (t + 1)) (lv' := [(3, .int (iI (t + 1))), (2, .int (iI j)), (1, .int (iI hv)), (0, .ref (b 0))]) hx hb d_Mo_goal_84 hl (k := 0) rfl (iI_add _ _) (by decide) rfl (fun ls hl => ?_)
                refine lv_goto (tgt := 31) hx hb d_Mo_goal_87 (by decide) ?_
                exact ih31 (t + 1) h2 d1 d2 d3 d4 d5 p3 _ _ ls (by omega) (by rw [su_s (by omega), show mG M hv j t = 0 from if_neg (fun z => z c_50), Int.add_zero]; exact hs2) (by omega) hP hD hS (lv_sub hl [0, 1, 2, 3] rfl)
              · refine lv_aload_n hx hb d_Mo_goal_53 rfl (lv_at hl 3 rfl) ?_
                refine lv_aload_n hx hb d_Mo_goal_54 rfl (lv_at hl 3 rfl) ?_
                refine va_get (D := D) (ci := 6) (v := .ref (b 3)) (C := R_Mo) (T := F_Mo) (N := 29) hx hb hts i_Mo hown hK hP 6 rfl rfl 8 (by decide) (hts _ wf_Mo_16) (fun _ h9 => h9) rfl d_Mo_goal_55 ?_
                refine lv_bipush (v := iI 16) hx hb d_Mo_goal_58 (by decide +kernel) ?_
                refine lv_iload_n hx hb d_Mo_goal_60 rfl (lv_at hl 0 rfl) ?_
                refine x_imul hx hb d_Mo_goal_61 ?_
                refine lv_iload_n hx hb d_Mo_goal_62 rfl (lv_at hl 1 rfl) ?_
                refine x_iadd hx hb d_Mo_goal_63 ?_
                refine x_dald hx hb hK hP 8 rfl (by omega) (by decide) d_Mo_goal_64 ?_
                refine x_topd _ _ (M.kq ((16 * t) + j)) (-3) rfl ?_
                refine lv_aload_n hx hb d_Mo_goal_65 rfl (lv_at hl 3 rfl) ?_
                refine va_get (D := D) (ci := 6) (v := .ref (b 8)) (C := R_Mo) (T := F_Mo) (N := 29) hx hb hts i_Mo hown hK hP 6 rfl rfl 13 (by decide) (hts _ wf_Mo_31) (fun _ h9 => h9) rfl d_Mo_goal_66 ?_
                refine lv_iload_n hx hb d_Mo_goal_69 rfl (lv_at hl 0 rfl) ?_
                refine x_dald hx hb hK hP 9 rfl (by omega) (by decide) d_Mo_goal_70 ?_
                refine lv_aload_n hx hb d_Mo_goal_71 rfl (lv_at hl 3 rfl) ?_
                refine va_get (D := D) (ci := 6) (v := .ref (b 8)) (C := R_Mo) (T := F_Mo) (N := 29) hx hb hts i_Mo hown hK hP 6 rfl rfl 13 (by decide) (hts _ wf_Mo_31) (fun _ h9 => h9) rfl d_Mo_goal_72 ?_
                refine lv_iload_n hx hb d_Mo_goal_75 rfl (lv_at hl 1 rfl) ?_
                refine x_dald hx hb hK hP 9 rfl (by omega) (by decide) d_Mo_goal_76 ?_
                refine lv_iload_n hx hb d_Mo_goal_77 rfl (lv_at hl 2 rfl) ?_
                refine lv_iconst (v := iI 2) hx hb d_Mo_goal_78 rfl ?_
                refine x_isub hx hb d_Mo_goal_79 ?_
                refine lv_iconst (v := iI 0) hx hb d_Mo_goal_80 rfl ?_
                refine x_callV0F S (c_Mo_add l D aC b M er p3 h2 d1 d2 d3 d4 d5 (M.kq ((16 * t) + j)) (-3) (M.kx t) (M.xb t) (M.kx j) (M.xb j) (hv - 2) 0 (V + su (mC M hv) j.toNat + U3 0 (M.kc j) (-3) (M.kx j) (M.xb j) 1 0 0 + su (mG M hv j) t.toNat) (by omega) (by omega) (by omega) (by omega) (by omega) (by omega) (by omega) (by omega) hs2 (by omega)) t_Mo_168 (rm_ok (by decide) (by decide)) hK hN hP hD hS [0, 1, 2, 3, 4, 5, 6] [] rfl rfl (fun w9 hw => by obtain ⟨s2, g1_2, g2_2, g3_2, g4_2, g5_2, p2_2, rfl, hs2⟩ := hw; exact ⟨rfl, Nat.le_of_ble_eq_true rfl⟩) 6 6 rfl rfl rfl hl.1 rfl (Nat.le_of_ble_eq_true rfl) d_Mo_goal_81 ⟨Nat.zero_le _, Nat.zero_le _⟩ (fun w1 ws1 H locs e9 hw hP hD hS => ?_)
                obtain ⟨s2, g1_2, g2_2, g3_2, g4_2, g5_2, p2_2, rfl, hs2⟩ := hw
                have e9 : ws1 = [(b 16, eI aC 440 s2), (b 18, eI aC 1200 g1_2), (b 19, eI aC 1200 g2_2), (b 20, eI aC 1200 g3_2), (b 21, eI aC 1200 g4_2), (b 22, eI aC 1200 g5_2), (b 0, .inr (6, [.int (iI er), .int (iI M.rw), .int (iI M.cn), .int (iI M.en), .int (iI M.pr), .double (dM M.ko (-3)), .ref (b 1), .ref (b 2), .ref (b 3), .ref (b 4), .ref (b 5), .ref (b 6), .ref (b 7), .ref (b 8), .ref (b 9), .ref (b 10), .ref (b 11), .ref (b 12), .ref (b 13), .ref (b 14), .ref (b 15), .int (iI p2_2), .ref (b 16), .ref (b 17), .ref (b 18), .ref (b 19), .ref (b 20), .ref (b 21), .ref (b 22)])), (b 2, eD aC 16 (dA M.kc c3)), (b 3, eD aC 256 (dA M.kq c3)), (b 8, eD aC 16 (dA M.kx M.xb)), (b 11, eZ aC 256 M.qi)] := e9
                subst e9
                refine lv_iinc (v := iI (t + 1)) (lv' := [(3, .int (iI (t + 1))), (2, .int (iI j)), (1, .int (iI hv)), (0, .ref (b 0))]) hx hb d_Mo_goal_84 hl (k := 0) rfl (iI_add _ _) (by decide) rfl (fun ls hl => ?_)
                refine lv_goto (tgt := 31) hx hb d_Mo_goal_87 (by decide) ?_
                exact ih31 (t + 1) s2 g1_2 g2_2 g3_2 g4_2 g5_2 p2_2 _ _ ls (by omega) (by rw [su_s (by omega), show mG M hv j t = _ from if_pos c_50, ← Int.add_assoc]; exact hs2) (by omega) hP hD hS (lv_sub hl [0, 1, 2, 3] rfl)
        exact L31 _ 0 s1 g1_1 g2_1 g3_1 g4_1 g5_1 p2_1 _ _ ls (by omega) (by rw [su_i]; exact hs1) (n_lt _) hP hD hS (lv_sub hl [0, 1, 2, 3] rfl)
  exact L2 _ 0 f f1 f2 f3 f4 f5 p2 _ _ ls (by omega) (by rw [su_i]; exact hs0) (n_lt _) hP hD hS (lv_sub hl [0, 2, 1] rfl)
