def mGR (M : MS) : Int → Int := fun i => if 0 < M.ky i ∧ M.rli i ≠ 0 then U3 1 (M.ky i) (M.yb i) (M.krl i) (-3) 1 0 0 else if M.ky i < 0 ∧ M.rhi i ≠ 0 then U3 1 (M.ky i) (M.yb i) (M.krh i) (-3) 1 0 0 else 0
def gU (M : MS) (j : Int) : Int := if 0 < mR M j then M.li j else if mR M j < 0 ∧ M.hi j ≠ 0 then 1 else 0
theorem SumOk.cg {f : Int → Int} {S T : Int} (h : SumOk f S) (e : S = T) : SumOk f T := by rw [← e]; exact h
def gB (M : MS) (j : Int) : Int := if 0 < mR M j then M.kl j else M.kh j
def gQ (M : MS) (j k : Int) : Int → Int := fun i => if M.qi (16 * i + j) ≠ 0 then U3 1 (M.kq (16 * i + j)) (-3) (M.kx i) (M.xb i) k (-3) 0 else 0
def gY (M : MS) (j k : Int) : Int → Int := fun i => if M.ai (16 * i + j) ≠ 0 then U3 0 (M.ka (16 * i + j)) (-3) (M.ky i) (M.yb i) k (-3) 0 else 0
def gT (M : MS) (j k : Int) : Int := U3 1 (M.kc j) (-3) k (-3) 1 0 0 + su (gQ M j k) M.cn.toNat + su (gY M j k) M.rw.toNat
def mGC (M : MS) : Int → Int := fun j => if gU M j ≠ 0 then gT M j (gB M j) else 0
def mGap (M : MS) : Int := 0 + su (mC M 2) M.cn.toNat + su (mGR M) M.rw.toNat + su (mGC M) M.cn.toNat
def mGo (M : MS) : Int := 0 + U3 1 M.ko (-3) 1 0 1 0 0 + su (mC M 1) M.cn.toNat
theorem gB_r {M : MS} (hM : MI M) {j : Int} (hj : 0 ≤ j ∧ j < 16) : -4294967296 < gB M j ∧ gB M j < 4294967296 := by
  have := hM.kl j (by omega) (by omega)
  have := hM.kh j (by omega) (by omega)
  unfold gB; split <;> omega
theorem gU_r {M : MS} (hM : MI M) {j : Int} (hj : 0 ≤ j ∧ j < 16) : gU M j = 0 ∨ gU M j = 1 := by
  have := hM.li j (by omega) (by omega)
  unfold gU; split
  · omega
  · split <;> omega
theorem B_C {M : MS} (hM : MI M) (hv : Int) (hh : hv = 1 ∨ hv = 2) : Bu 272 (su (mC M hv) M.cn.toNat) := by
  have hcn := hM.cn
  refine (Bu.su (c := 17) M.cn.toNat (fun j h1 h2 => ?_)).mono (by omega)
  have k1 := hM.kc j (by omega) (by omega)
  have k2 := hM.kx j (by omega) (by omega)
  have k3 := hM.xb j (by omega) (by omega)
  have b1 : Bu 16 (su (mG M hv j) M.cn.toNat) := by
    refine (Bu.su (c := 1) M.cn.toNat (fun i h3 h4 => ?_)).mono (by omega)
    have k4 := hM.kq (16 * i + j) (by omega) (by omega)
    have k5 := hM.kx i (by omega) (by omega)
    have k6 := hM.xb i (by omega) (by omega)
    exact Bu.it (Bu.u3 (by omega) (by omega) (by omega) (by omega) (by omega)) (Bu.zero 1)
  exact ((Bu.u3 (by omega) (by omega) (by omega) (by omega) (by omega)).add b1).mono (by decide)
theorem B_Go {M : MS} (hM : MI M) : Bu 300 (mGo M) := by
  have k0 := hM.ko
  exact (((Bu.zero 0).add (Bu.u3 (by omega) (by omega) (by omega) (by omega) (by omega))).add (B_C hM 1 (Or.inl rfl))).mono (by decide)
theorem B_T {M : MS} (hM : MI M) {j k : Int} (hj : 0 ≤ j ∧ j < 16) (hk : -4294967296 < k ∧ k < 4294967296) : Bu 29 (gT M j k) := by
  have hcn := hM.cn
  have hrw := hM.rw
  have k0 := hM.kc j (by omega) (by omega)
  have b1 : Bu 16 (su (gQ M j k) M.cn.toNat) := by
    refine (Bu.su (c := 1) M.cn.toNat (fun i h1 h2 => ?_)).mono (by omega)
    have k1 := hM.kq (16 * i + j) (by omega) (by omega)
    have k2 := hM.kx i (by omega) (by omega)
    have k3 := hM.xb i (by omega) (by omega)
    exact Bu.it (Bu.u3 (by omega) (by omega) (by omega) (by omega) (by omega)) (Bu.zero 1)
  have b2 : Bu 12 (su (gY M j k) M.rw.toNat) := by
    refine (Bu.su (c := 1) M.rw.toNat (fun i h1 h2 => ?_)).mono (by omega)
    have k1 := hM.ka (16 * i + j) (by omega) (by omega)
    have k2 := hM.ky i (by omega) (by omega)
    have k3 := hM.yb i (by omega) (by omega)
    exact Bu.it (Bu.u3 (by omega) (by omega) (by omega) (by omega) (by omega)) (Bu.zero 1)
  exact (((Bu.u3 (by omega) (by omega) (by omega) (by omega) (by omega)).add b1).add b2).mono (by decide)
theorem B_Gap {M : MS} (hM : MI M) : Bu 1000 (mGap M) := by
  have hcn := hM.cn
  have hrw := hM.rw
  have b1 : Bu 12 (su (mGR M) M.rw.toNat) := by
    refine (Bu.su (c := 1) M.rw.toNat (fun i h1 h2 => ?_)).mono (by omega)
    have k1 := hM.ky i (by omega) (by omega)
    have k2 := hM.yb i (by omega) (by omega)
    have k3 := hM.krl i (by omega) (by omega)
    have k4 := hM.krh i (by omega) (by omega)
    exact Bu.it (Bu.u3 (by omega) (by omega) (by omega) (by omega) (by omega)) (Bu.it (Bu.u3 (by omega) (by omega) (by omega) (by omega) (by omega)) (Bu.zero 1))
  have b2 : Bu 464 (su (mGC M) M.cn.toNat) := by
    refine (Bu.su (c := 29) M.cn.toNat (fun j h1 h2 => ?_)).mono (by omega)
    exact Bu.it (B_T hM (by omega) (gB_r hM (by omega))) (Bu.zero 29)
  exact ((((Bu.zero 0).add (B_C hM 2 (Or.inr rfl))).add b1).add b2).mono (by decide)

set_option maxHeartbeats 4000000 in
set_option maxRecDepth 100000 in
theorem c_Mo_gap (l : Launch) (D : va_G) (aC : Nat → ClassId) (b : Nat → Nat) (M : MS) (hM : MI M) (er p2 : Int) (her : 0 ≤ er ∧ er ≤ 3) (f f1 f2 f3 f4 f5 : Int → Int) (z : Int → Int) : CT l D aC y_Mo_gap (rd 4 120) [.ref (b 0)] [(b 16, eI aC 440 f), (b 18, eI aC 1200 f1), (b 19, eI aC 1200 f2), (b 20, eI aC 1200 f3), (b 21, eI aC 1200 f4), (b 22, eI aC 1200 f5), (b 0, .inr (6, [.int (iI er), .int (iI M.rw), .int (iI M.cn), .int (iI M.en), .int (iI M.pr), .double (dM M.ko (-3)), .ref (b 1), .ref (b 2), .ref (b 3), .ref (b 4), .ref (b 5), .ref (b 6), .ref (b 7), .ref (b 8), .ref (b 9), .ref (b 10), .ref (b 11), .ref (b 12), .ref (b 13), .ref (b 14), .ref (b 15), .int (iI p2), .ref (b 16), .ref (b 17), .ref (b 18), .ref (b 19), .ref (b 20), .ref (b 21), .ref (b 22)])), (b 17, eI aC 440 z), (b 1, eD aC 192 (dA M.ka c3)), (b 2, eD aC 16 (dA M.kc c3)), (b 3, eD aC 256 (dA M.kq c3)), (b 4, eD aC 16 (dA M.kl c3)), (b 5, eD aC 16 (dA M.kh c3)), (b 6, eD aC 12 (dA M.krl c3)), (b 7, eD aC 12 (dA M.krh c3)), (b 8, eD aC 16 (dA M.kx M.xb)), (b 9, eD aC 12 (dA M.ky M.yb)), (b 10, eZ aC 192 M.ai), (b 11, eZ aC 256 M.qi), (b 12, eZ aC 16 M.li), (b 13, eZ aC 16 M.hi), (b 14, eZ aC 12 M.rli), (b 15, eZ aC 12 M.rhi)] (fun v w => v = some (.double (dM (uM (mGap M)) (uE (mGap M)))) ∧ ∃ (h g1 g2 g3 g4 g5 : Int → Int) (p2' : Int) (z' : Int → Int), w = [(b 16, eI aC 440 h), (b 18, eI aC 1200 g1), (b 19, eI aC 1200 g2), (b 20, eI aC 1200 g3), (b 21, eI aC 1200 g4), (b 22, eI aC 1200 g5), (b 0, .inr (6, [.int (iI (eU er (mGap M))), .int (iI M.rw), .int (iI M.cn), .int (iI M.en), .int (iI M.pr), .double (dM M.ko (-3)), .ref (b 1), .ref (b 2), .ref (b 3), .ref (b 4), .ref (b 5), .ref (b 6), .ref (b 7), .ref (b 8), .ref (b 9), .ref (b 10), .ref (b 11), .ref (b 12), .ref (b 13), .ref (b 14), .ref (b 15), .int (iI p2'), .ref (b 16), .ref (b 17), .ref (b 18), .ref (b 19), .ref (b 20), .ref (b 21), .ref (b 22)])), (b 17, eI aC 440 z'), (b 1, eD aC 192 (dA M.ka c3)), (b 2, eD aC 16 (dA M.kc c3)), (b 3, eD aC 256 (dA M.kq c3)), (b 4, eD aC 16 (dA M.kl c3)), (b 5, eD aC 16 (dA M.kh c3)), (b 6, eD aC 12 (dA M.krl c3)), (b 7, eD aC 12 (dA M.krh c3)), (b 8, eD aC 16 (dA M.kx M.xb)), (b 9, eD aC 12 (dA M.ky M.yb)), (b 10, eZ aC 192 M.ai), (b 11, eZ aC 256 M.qi), (b 12, eZ aC 16 M.li), (b 13, eZ aC 16 M.hi), (b 14, eZ aC 12 M.rli), (b 15, eZ aC 12 M.rhi)] ∧ SumOk h (mGap M)) := by
  refine CT.of (cc := b_Mo_gap) (maxL := 6) (ret := (some .double)) (by decide +kernel) k_Mo_gap (Nat.le_of_ble_eq_true rfl) ?_
  intro p e s m below meth c Q S hr hlocks hQ hK hN hP hD hS ls hl
  obtain ⟨hx, hb, hml, hown, hts⟩ := id S
  have hl : lv_has ls 6 [(0, .ref (b 0))] := hl
  have hrw := hM.rw
  have hcn := hM.cn
  refine lv_iconst (v := iI 0) hx hb d_Mo_gap_0 rfl ?_
  refine lv_istore_n (lv' := [(1, .int (iI 0)), (0, .ref (b 0))]) hx hb d_Mo_gap_1 rfl hl (by decide) rfl (fun ls hl => ?_)
  have L2 : ∀ (nn : Nat) (t : Int) (h : Int → Int) (e1 : Int → Int) (e2 : Int → Int) (e3 : Int → Int) (e4 : Int → Int) (e5 : Int → Int) (p2' : Int) (y : Int → Int) (H : Heap) (locs : List Loc) (ls : Array Slot), (0 ≤ t ∧ t ≤ M.cn) → (∀ j : Int, 0 ≤ j → j < t → y j = sgI (mR M j)) → M.cn - t < (nn : Int) → va_P D CL [(b 16, eI aC 440 h), (b 18, eI aC 1200 e1), (b 19, eI aC 1200 e2), (b 20, eI aC 1200 e3), (b 21, eI aC 1200 e4), (b 22, eI aC 1200 e5), (b 0, .inr (6, [.int (iI er), .int (iI M.rw), .int (iI M.cn), .int (iI M.en), .int (iI M.pr), .double (dM M.ko (-3)), .ref (b 1), .ref (b 2), .ref (b 3), .ref (b 4), .ref (b 5), .ref (b 6), .ref (b 7), .ref (b 8), .ref (b 9), .ref (b 10), .ref (b 11), .ref (b 12), .ref (b 13), .ref (b 14), .ref (b 15), .int (iI p2'), .ref (b 16), .ref (b 17), .ref (b 18), .ref (b 19), .ref (b 20), .ref (b 21), .ref (b 22)])), (b 17, eI aC 440 y), (b 1, eD aC 192 (dA M.ka c3)), (b 2, eD aC 16 (dA M.kc c3)), (b 3, eD aC 256 (dA M.kq c3)), (b 4, eD aC 16 (dA M.kl c3)), (b 5, eD aC 16 (dA M.kh c3)), (b 6, eD aC 12 (dA M.krl c3)), (b 7, eD aC 12 (dA M.krh c3)), (b 8, eD aC 16 (dA M.kx M.xb)), (b 9, eD aC 12 (dA M.ky M.yb)), (b 10, eZ aC 192 M.ai), (b 11, eZ aC 256 M.qi), (b 12, eZ aC 16 M.li), (b 13, eZ aC 16 M.hi), (b 14, eZ aC 12 M.rli), (b 15, eZ aC 12 M.rhi)] H → va_D (aW [(b 16, eI aC 440 f), (b 18, eI aC 1200 f1), (b 19, eI aC 1200 f2), (b 20, eI aC 1200 f3), (b 21, eI aC 1200 f4), (b 22, eI aC 1200 f5), (b 0, .inr (6, [.int (iI er), .int (iI M.rw), .int (iI M.cn), .int (iI M.en), .int (iI M.pr), .double (dM M.ko (-3)), .ref (b 1), .ref (b 2), .ref (b 3), .ref (b 4), .ref (b 5), .ref (b 6), .ref (b 7), .ref (b 8), .ref (b 9), .ref (b 10), .ref (b 11), .ref (b 12), .ref (b 13), .ref (b 14), .ref (b 15), .int (iI p2), .ref (b 16), .ref (b 17), .ref (b 18), .ref (b 19), .ref (b 20), .ref (b 21), .ref (b 22)])), (b 17, eI aC 440 z), (b 1, eD aC 192 (dA M.ka c3)), (b 2, eD aC 16 (dA M.kc c3)), (b 3, eD aC 256 (dA M.kq c3)), (b 4, eD aC 16 (dA M.kl c3)), (b 5, eD aC 16 (dA M.kh c3)), (b 6, eD aC 12 (dA M.krl c3)), (b 7, eD aC 12 (dA M.krh c3)), (b 8, eD aC 16 (dA M.kx M.xb)), (b 9, eD aC 12 (dA M.ky M.yb)), (b 10, eZ aC 192 M.ai), (b 11, eZ aC 256 M.qi), (b 12, eZ aC 16 M.li), (b 13, eZ aC 16 M.hi), (b 14, eZ aC 12 M.rli), (b 15, eZ aC 12 M.rhi)]) [(b 16, eI aC 440 h), (b 18, eI aC 1200 e1), (b 19, eI aC 1200 e2), (b 20, eI aC 1200 e3), (b 21, eI aC 1200 e4), (b 22, eI aC 1200 e5), (b 0, .inr (6, [.int (iI er), .int (iI M.rw), .int (iI M.cn), .int (iI M.en), .int (iI M.pr), .double (dM M.ko (-3)), .ref (b 1), .ref (b 2), .ref (b 3), .ref (b 4), .ref (b 5), .ref (b 6), .ref (b 7), .ref (b 8), .ref (b 9), .ref (b 10), .ref (b 11), .ref (b 12), .ref (b 13), .ref (b 14), .ref (b 15), .int (iI p2'), .ref (b 16), .ref (b 17), .ref (b 18), .ref (b 19), .ref (b 20), .ref (b 21), .ref (b 22)])), (b 17, eI aC 440 y), (b 1, eD aC 192 (dA M.ka c3)), (b 2, eD aC 16 (dA M.kc c3)), (b 3, eD aC 256 (dA M.kq c3)), (b 4, eD aC 16 (dA M.kl c3)), (b 5, eD aC 16 (dA M.kh c3)), (b 6, eD aC 12 (dA M.krl c3)), (b 7, eD aC 12 (dA M.krh c3)), (b 8, eD aC 16 (dA M.kx M.xb)), (b 9, eD aC 12 (dA M.ky M.yb)), (b 10, eZ aC 192 M.ai), (b 11, eZ aC 256 M.qi), (b 12, eZ aC 16 M.li), (b 13, eZ aC 16 M.hi), (b 14, eZ aC 12 M.rli), (b 15, eZ aC 12 M.rhi)] → va_S (aW [(b 16, eI aC 440 f), (b 18, eI aC 1200 f1), (b 19, eI aC 1200 f2), (b 20, eI aC 1200 f3), (b 21, eI aC 1200 f4), (b 22, eI aC 1200 f5), (b 0, .inr (6, [.int (iI er), .int (iI M.rw), .int (iI M.cn), .int (iI M.en), .int (iI M.pr), .double (dM M.ko (-3)), .ref (b 1), .ref (b 2), .ref (b 3), .ref (b 4), .ref (b 5), .ref (b 6), .ref (b 7), .ref (b 8), .ref (b 9), .ref (b 10), .ref (b 11), .ref (b 12), .ref (b 13), .ref (b 14), .ref (b 15), .int (iI p2), .ref (b 16), .ref (b 17), .ref (b 18), .ref (b 19), .ref (b 20), .ref (b 21), .ref (b 22)])), (b 17, eI aC 440 z), (b 1, eD aC 192 (dA M.ka c3)), (b 2, eD aC 16 (dA M.kc c3)), (b 3, eD aC 256 (dA M.kq c3)), (b 4, eD aC 16 (dA M.kl c3)), (b 5, eD aC 16 (dA M.kh c3)), (b 6, eD aC 12 (dA M.krl c3)), (b 7, eD aC 12 (dA M.krh c3)), (b 8, eD aC 16 (dA M.kx M.xb)), (b 9, eD aC 12 (dA M.ky M.yb)), (b 10, eZ aC 192 M.ai), (b 11, eZ aC 256 M.qi), (b 12, eZ aC 16 M.li), (b 13, eZ aC 16 M.hi), (b 14, eZ aC 12 M.rli), (b 15, eZ aC 12 M.rhi)]) s.heap H locs → lv_has ls 6 [(1, .int (iI t)), (0, .ref (b 0))] → W p l e (rd 4 120) s m ([.ref (b 0)]).toArray below meth c H locs 0 0 Q (F0 m 2 ls []) := by
    intro nn
    induction nn with
    | zero => intro t h e1 e2 e3 e4 e5 p2' y H locs ls ht hz hnn; exact absurd hnn (by omega)
    | succ nn ih =>
      intro t h e1 e2 e3 e4 e5 p2' y H locs ls ht hz hnn hP hD hS hl
      refine lv_iload_n hx hb d_Mo_gap_2 rfl (lv_at hl 0 rfl) ?_
      refine lv_aload_n hx hb d_Mo_gap_3 rfl (lv_at hl 1 rfl) ?_
      refine va_get (D := D) (ci := 6) (v := .int (iI M.cn)) (C := R_Mo) (T := F_Mo) (N := 29) hx hb hts i_Mo hown hK hP 6 rfl rfl 2 (by decide) (hts _ wf_Mo_130) (fun _ h9 => h9) rfl d_Mo_gap_4 ?_
      refine x_icmp_ge (tgt := 31) hx hb d_Mo_gap_7 (by decide) (by omega) (by omega) (fun c_7 => ?_) (fun c_7 => ?_)
      · refine lv_aload_n hx hb d_Mo_gap_31 rfl (lv_at hl 1 rfl) ?_
        refine x_callV0F S (c_Mo_zero l D aC b M er p2' h) t_Mo_165 (rm_ok (by decide) (by decide)) hK hN hP hD hS [0] [6] rfl rfl (fun w9 hw => by obtain ⟨s1, rfl, hs1⟩ := hw; exact ⟨rfl, Nat.le_of_ble_eq_true rfl⟩) 1 6 rfl rfl rfl hl.1 rfl (Nat.le_of_ble_eq_true rfl) d_Mo_gap_32 ⟨Nat.zero_le _, Nat.zero_le _⟩ (fun w1 ws1 H locs e9 hw hP hD hS => ?_)
        obtain ⟨s1, rfl, hs1⟩ := hw
        have e9 : ws1 = [(b 16, eI aC 440 s1), (b 18, eI aC 1200 e1), (b 19, eI aC 1200 e2), (b 20, eI aC 1200 e3), (b 21, eI aC 1200 e4), (b 22, eI aC 1200 e5), (b 0, .inr (6, [.int (iI er), .int (iI M.rw), .int (iI M.cn), .int (iI M.en), .int (iI M.pr), .double (dM M.ko (-3)), .ref (b 1), .ref (b 2), .ref (b 3), .ref (b 4), .ref (b 5), .ref (b 6), .ref (b 7), .ref (b 8), .ref (b 9), .ref (b 10), .ref (b 11), .ref (b 12), .ref (b 13), .ref (b 14), .ref (b 15), .int (iI p2'), .ref (b 16), .ref (b 17), .ref (b 18), .ref (b 19), .ref (b 20), .ref (b 21), .ref (b 22)])), (b 17, eI aC 440 y), (b 1, eD aC 192 (dA M.ka c3)), (b 2, eD aC 16 (dA M.kc c3)), (b 3, eD aC 256 (dA M.kq c3)), (b 4, eD aC 16 (dA M.kl c3)), (b 5, eD aC 16 (dA M.kh c3)), (b 6, eD aC 12 (dA M.krl c3)), (b 7, eD aC 12 (dA M.krh c3)), (b 8, eD aC 16 (dA M.kx M.xb)), (b 9, eD aC 12 (dA M.ky M.yb)), (b 10, eZ aC 192 M.ai), (b 11, eZ aC 256 M.qi), (b 12, eZ aC 16 M.li), (b 13, eZ aC 16 M.hi), (b 14, eZ aC 12 M.rli), (b 15, eZ aC 12 M.rhi)] := e9
        subst e9
        refine lv_aload_n hx hb d_Mo_gap_35 rfl (lv_at hl 1 rfl) ?_
        refine lv_iconst (v := iI 2) hx hb d_Mo_gap_36 rfl ?_
        refine x_callV0F S (c_Mo_goal l D aC b M hM er p2' s1 e1 e2 e3 e4 e5 2 0 (by omega) hs1) t_Mo_190 (rm_ok (by decide) (by decide)) hK hN hP hD hS [0, 1, 2, 3, 4, 5, 6] [9, 10, 15, 18] rfl (by decide +kernel) (fun w9 hw => by obtain ⟨s2, g1_2, g2_2, g3_2, g4_2, g5_2, p2_2, rfl, hs2⟩ := hw; exact ⟨rfl, Nat.le_of_ble_eq_true rfl⟩) 6 6 rfl rfl rfl hl.1 rfl (Nat.le_of_ble_eq_true rfl) d_Mo_gap_37 ⟨Nat.zero_le _, Nat.zero_le _⟩ (fun w1 ws1 H locs e9 hw hP hD hS => ?_)
        obtain ⟨s2, g1_2, g2_2, g3_2, g4_2, g5_2, p2_2, rfl, hs2⟩ := hw
        have e9 : ws1 = [(b 16, eI aC 440 s2), (b 18, eI aC 1200 g1_2), (b 19, eI aC 1200 g2_2), (b 20, eI aC 1200 g3_2), (b 21, eI aC 1200 g4_2), (b 22, eI aC 1200 g5_2), (b 0, .inr (6, [.int (iI er), .int (iI M.rw), .int (iI M.cn), .int (iI M.en), .int (iI M.pr), .double (dM M.ko (-3)), .ref (b 1), .ref (b 2), .ref (b 3), .ref (b 4), .ref (b 5), .ref (b 6), .ref (b 7), .ref (b 8), .ref (b 9), .ref (b 10), .ref (b 11), .ref (b 12), .ref (b 13), .ref (b 14), .ref (b 15), .int (iI p2_2), .ref (b 16), .ref (b 17), .ref (b 18), .ref (b 19), .ref (b 20), .ref (b 21), .ref (b 22)])), (b 17, eI aC 440 y), (b 1, eD aC 192 (dA M.ka c3)), (b 2, eD aC 16 (dA M.kc c3)), (b 3, eD aC 256 (dA M.kq c3)), (b 4, eD aC 16 (dA M.kl c3)), (b 5, eD aC 16 (dA M.kh c3)), (b 6, eD aC 12 (dA M.krl c3)), (b 7, eD aC 12 (dA M.krh c3)), (b 8, eD aC 16 (dA M.kx M.xb)), (b 9, eD aC 12 (dA M.ky M.yb)), (b 10, eZ aC 192 M.ai), (b 11, eZ aC 256 M.qi), (b 12, eZ aC 16 M.li), (b 13, eZ aC 16 M.hi), (b 14, eZ aC 12 M.rli), (b 15, eZ aC 12 M.rhi)] := e9
        subst e9
        refine lv_iconst (v := iI 0) hx hb d_Mo_gap_40 rfl ?_
        refine lv_istore_n (lv' := [(1, .int (iI 0)), (0, .ref (b 0))]) hx hb d_Mo_gap_41 rfl hl (by decide) rfl (fun ls hl => ?_)
        have hs0 := hs2
        have L42 : ∀ (nn : Nat) (i : Int) (h2 : Int → Int) (d1 : Int → Int) (d2 : Int → Int) (d3 : Int → Int) (d4 : Int → Int) (d5 : Int → Int) (p3 : Int) (H : Heap) (locs : List Loc) (ls : Array Slot), (0 ≤ i ∧ i ≤ M.rw) → (SumOk h2 (0 + su (mC M 2) M.cn.toNat + su (mGR M) i.toNat)) → M.rw - i < (nn : Int) → va_P D CL [(b 16, eI aC 440 h2), (b 18, eI aC 1200 d1), (b 19, eI aC 1200 d2), (b 20, eI aC 1200 d3), (b 21, eI aC 1200 d4), (b 22, eI aC 1200 d5), (b 0, .inr (6, [.int (iI er), .int (iI M.rw), .int (iI M.cn), .int (iI M.en), .int (iI M.pr), .double (dM M.ko (-3)), .ref (b 1), .ref (b 2), .ref (b 3), .ref (b 4), .ref (b 5), .ref (b 6), .ref (b 7), .ref (b 8), .ref (b 9), .ref (b 10), .ref (b 11), .ref (b 12), .ref (b 13), .ref (b 14), .ref (b 15), .int (iI p3), .ref (b 16), .ref (b 17), .ref (b 18), .ref (b 19), .ref (b 20), .ref (b 21), .ref (b 22)])), (b 17, eI aC 440 y), (b 1, eD aC 192 (dA M.ka c3)), (b 2, eD aC 16 (dA M.kc c3)), (b 3, eD aC 256 (dA M.kq c3)), (b 4, eD aC 16 (dA M.kl c3)), (b 5, eD aC 16 (dA M.kh c3)), (b 6, eD aC 12 (dA M.krl c3)), (b 7, eD aC 12 (dA M.krh c3)), (b 8, eD aC 16 (dA M.kx M.xb)), (b 9, eD aC 12 (dA M.ky M.yb)), (b 10, eZ aC 192 M.ai), (b 11, eZ aC 256 M.qi), (b 12, eZ aC 16 M.li), (b 13, eZ aC 16 M.hi), (b 14, eZ aC 12 M.rli), (b 15, eZ aC 12 M.rhi)] H → va_D (aW [(b 16, eI aC 440 f), (b 18, eI aC 1200 f1), (b 19, eI aC 1200 f2), (b 20, eI aC 1200 f3), (b 21, eI aC 1200 f4), (b 22, eI aC 1200 f5), (b 0, .inr (6, [.int (iI er), .int (iI M.rw), .int (iI M.cn), .int (iI M.en), .int (iI M.pr), .double (dM M.ko (-3)), .ref (b 1), .ref (b 2), .ref (b 3), .ref (b 4), .ref (b 5), .ref (b 6), .ref (b 7), .ref (b 8), .ref (b 9), .ref (b 10), .ref (b 11), .ref (b 12), .ref (b 13), .ref (b 14), .ref (b 15), .int (iI p2), .ref (b 16), .ref (b 17), .ref (b 18), .ref (b 19), .ref (b 20), .ref (b 21), .ref (b 22)])), (b 17, eI aC 440 z), (b 1, eD aC 192 (dA M.ka c3)), (b 2, eD aC 16 (dA M.kc c3)), (b 3, eD aC 256 (dA M.kq c3)), (b 4, eD aC 16 (dA M.kl c3)), (b 5, eD aC 16 (dA M.kh c3)), (b 6, eD aC 12 (dA M.krl c3)), (b 7, eD aC 12 (dA M.krh c3)), (b 8, eD aC 16 (dA M.kx M.xb)), (b 9, eD aC 12 (dA M.ky M.yb)), (b 10, eZ aC 192 M.ai), (b 11, eZ aC 256 M.qi), (b 12, eZ aC 16 M.li), (b 13, eZ aC 16 M.hi), (b 14, eZ aC 12 M.rli), (b 15, eZ aC 12 M.rhi)]) [(b 16, eI aC 440 h2), (b 18, eI aC 1200 d1), (b 19, eI aC 1200 d2), (b 20, eI aC 1200 d3), (b 21, eI aC 1200 d4), (b 22, eI aC 1200 d5), (b 0, .inr (6, [.int (iI er), .int (iI M.rw), .int (iI M.cn), .int (iI M.en), .int (iI M.pr), .double (dM M.ko (-3)), .ref (b 1), .ref (b 2), .ref (b 3), .ref (b 4), .ref (b 5), .ref (b 6), .ref (b 7), .ref (b 8), .ref (b 9), .ref (b 10), .ref (b 11), .ref (b 12), .ref (b 13), .ref (b 14), .ref (b 15), .int (iI p3), .ref (b 16), .ref (b 17), .ref (b 18), .ref (b 19), .ref (b 20), .ref (b 21), .ref (b 22)])), (b 17, eI aC 440 y), (b 1, eD aC 192 (dA M.ka c3)), (b 2, eD aC 16 (dA M.kc c3)), (b 3, eD aC 256 (dA M.kq c3)), (b 4, eD aC 16 (dA M.kl c3)), (b 5, eD aC 16 (dA M.kh c3)), (b 6, eD aC 12 (dA M.krl c3)), (b 7, eD aC 12 (dA M.krh c3)), (b 8, eD aC 16 (dA M.kx M.xb)), (b 9, eD aC 12 (dA M.ky M.yb)), (b 10, eZ aC 192 M.ai), (b 11, eZ aC 256 M.qi), (b 12, eZ aC 16 M.li), (b 13, eZ aC 16 M.hi), (b 14, eZ aC 12 M.rli), (b 15, eZ aC 12 M.rhi)] → va_S (aW [(b 16, eI aC 440 f), (b 18, eI aC 1200 f1), (b 19, eI aC 1200 f2), (b 20, eI aC 1200 f3), (b 21, eI aC 1200 f4), (b 22, eI aC 1200 f5), (b 0, .inr (6, [.int (iI er), .int (iI M.rw), .int (iI M.cn), .int (iI M.en), .int (iI M.pr), .double (dM M.ko (-3)), .ref (b 1), .ref (b 2), .ref (b 3), .ref (b 4), .ref (b 5), .ref (b 6), .ref (b 7), .ref (b 8), .ref (b 9), .ref (b 10), .ref (b 11), .ref (b 12), .ref (b 13), .ref (b 14), .ref (b 15), .int (iI p2), .ref (b 16), .ref (b 17), .ref (b 18), .ref (b 19), .ref (b 20), .ref (b 21), .ref (b 22)])), (b 17, eI aC 440 z), (b 1, eD aC 192 (dA M.ka c3)), (b 2, eD aC 16 (dA M.kc c3)), (b 3, eD aC 256 (dA M.kq c3)), (b 4, eD aC 16 (dA M.kl c3)), (b 5, eD aC 16 (dA M.kh c3)), (b 6, eD aC 12 (dA M.krl c3)), (b 7, eD aC 12 (dA M.krh c3)), (b 8, eD aC 16 (dA M.kx M.xb)), (b 9, eD aC 12 (dA M.ky M.yb)), (b 10, eZ aC 192 M.ai), (b 11, eZ aC 256 M.qi), (b 12, eZ aC 16 M.li), (b 13, eZ aC 16 M.hi), (b 14, eZ aC 12 M.rli), (b 15, eZ aC 12 M.rhi)]) s.heap H locs → lv_has ls 6 [(1, .int (iI i)), (0, .ref (b 0))] → W p l e (rd 4 120) s m ([.ref (b 0)]).toArray below meth c H locs 0 0 Q (F0 m 42 ls []) := by
          intro nn42
          induction nn42 with
          | zero => intro i h2 d1 d2 d3 d4 d5 p3 H locs ls hi hs2 hnn42; exact absurd hnn42 (by omega)
          | succ nn42 ih42 =>
            intro i h2 d1 d2 d3 d4 d5 p3 H locs ls hi hs2 hnn42 hP hD hS hl
            refine lv_iload_n hx hb d_Mo_gap_42 rfl (lv_at hl 0 rfl) ?_
            refine lv_aload_n hx hb d_Mo_gap_43 rfl (lv_at hl 1 rfl) ?_
            refine va_get (D := D) (ci := 6) (v := .int (iI M.rw)) (C := R_Mo) (T := F_Mo) (N := 29) hx hb hts i_Mo hown hK hP 6 rfl rfl 1 (by decide) (hts _ wf_Mo_127) (fun _ h9 => h9) rfl d_Mo_gap_44 ?_
            refine x_icmp_ge (tgt := 134) hx hb d_Mo_gap_47 (by decide) (by omega) (by omega) (fun c_47 => ?_) (fun c_47 => ?_)
            · refine lv_iconst (v := iI 0) hx hb d_Mo_gap_134 rfl ?_
              refine lv_istore_n (lv' := [(1, .int (iI 0)), (0, .ref (b 0))]) hx hb d_Mo_gap_135 rfl hl (by decide) rfl (fun ls hl => ?_)
              have hs1 : SumOk h2 (0 + su (mC M 2) M.cn.toNat + su (mGR M) M.rw.toNat) := by rw [show M.rw = i by omega]; exact hs2
              have hz9 : ∀ j : Int, 0 ≤ j → j < M.cn → y j = sgI (mR M j) := fun j h1 h2 => hz j h1 (by omega)
              have L136 : ∀ (nn : Nat) (j : Int) (h3 : Int → Int) (x1 : Int → Int) (x2 : Int → Int) (x3 : Int → Int) (x4 : Int → Int) (x5 : Int → Int) (p4 : Int) (H : Heap) (locs : List Loc) (ls : Array Slot), (0 ≤ j ∧ j ≤ M.cn) → (SumOk h3 (0 + su (mC M 2) M.cn.toNat + su (mGR M) M.rw.toNat + su (mGC M) j.toNat)) → M.cn - j < (nn : Int) → va_P D CL [(b 16, eI aC 440 h3), (b 18, eI aC 1200 x1), (b 19, eI aC 1200 x2), (b 20, eI aC 1200 x3), (b 21, eI aC 1200 x4), (b 22, eI aC 1200 x5), (b 0, .inr (6, [.int (iI er), .int (iI M.rw), .int (iI M.cn), .int (iI M.en), .int (iI M.pr), .double (dM M.ko (-3)), .ref (b 1), .ref (b 2), .ref (b 3), .ref (b 4), .ref (b 5), .ref (b 6), .ref (b 7), .ref (b 8), .ref (b 9), .ref (b 10), .ref (b 11), .ref (b 12), .ref (b 13), .ref (b 14), .ref (b 15), .int (iI p4), .ref (b 16), .ref (b 17), .ref (b 18), .ref (b 19), .ref (b 20), .ref (b 21), .ref (b 22)])), (b 17, eI aC 440 y), (b 1, eD aC 192 (dA M.ka c3)), (b 2, eD aC 16 (dA M.kc c3)), (b 3, eD aC 256 (dA M.kq c3)), (b 4, eD aC 16 (dA M.kl c3)), (b 5, eD aC 16 (dA M.kh c3)), (b 6, eD aC 12 (dA M.krl c3)), (b 7, eD aC 12 (dA M.krh c3)), (b 8, eD aC 16 (dA M.kx M.xb)), (b 9, eD aC 12 (dA M.ky M.yb)), (b 10, eZ aC 192 M.ai), (b 11, eZ aC 256 M.qi), (b 12, eZ aC 16 M.li), (b 13, eZ aC 16 M.hi), (b 14, eZ aC 12 M.rli), (b 15, eZ aC 12 M.rhi)] H → va_D (aW [(b 16, eI aC 440 f), (b 18, eI aC 1200 f1), (b 19, eI aC 1200 f2), (b 20, eI aC 1200 f3), (b 21, eI aC 1200 f4), (b 22, eI aC 1200 f5), (b 0, .inr (6, [.int (iI er), .int (iI M.rw), .int (iI M.cn), .int (iI M.en), .int (iI M.pr), .double (dM M.ko (-3)), .ref (b 1), .ref (b 2), .ref (b 3), .ref (b 4), .ref (b 5), .ref (b 6), .ref (b 7), .ref (b 8), .ref (b 9), .ref (b 10), .ref (b 11), .ref (b 12), .ref (b 13), .ref (b 14), .ref (b 15), .int (iI p2), .ref (b 16), .ref (b 17), .ref (b 18), .ref (b 19), .ref (b 20), .ref (b 21), .ref (b 22)])), (b 17, eI aC 440 z), (b 1, eD aC 192 (dA M.ka c3)), (b 2, eD aC 16 (dA M.kc c3)), (b 3, eD aC 256 (dA M.kq c3)), (b 4, eD aC 16 (dA M.kl c3)), (b 5, eD aC 16 (dA M.kh c3)), (b 6, eD aC 12 (dA M.krl c3)), (b 7, eD aC 12 (dA M.krh c3)), (b 8, eD aC 16 (dA M.kx M.xb)), (b 9, eD aC 12 (dA M.ky M.yb)), (b 10, eZ aC 192 M.ai), (b 11, eZ aC 256 M.qi), (b 12, eZ aC 16 M.li), (b 13, eZ aC 16 M.hi), (b 14, eZ aC 12 M.rli), (b 15, eZ aC 12 M.rhi)]) [(b 16, eI aC 440 h3), (b 18, eI aC 1200 x1), (b 19, eI aC 1200 x2), (b 20, eI aC 1200 x3), (b 21, eI aC 1200 x4), (b 22, eI aC 1200 x5), (b 0, .inr (6, [.int (iI er), .int (iI M.rw), .int (iI M.cn), .int (iI M.en), .int (iI M.pr), .double (dM M.ko (-3)), .ref (b 1), .ref (b 2), .ref (b 3), .ref (b 4), .ref (b 5), .ref (b 6), .ref (b 7), .ref (b 8), .ref (b 9), .ref (b 10), .ref (b 11), .ref (b 12), .ref (b 13), .ref (b 14), .ref (b 15), .int (iI p4), .ref (b 16), .ref (b 17), .ref (b 18), .ref (b 19), .ref (b 20), .ref (b 21), .ref (b 22)])), (b 17, eI aC 440 y), (b 1, eD aC 192 (dA M.ka c3)), (b 2, eD aC 16 (dA M.kc c3)), (b 3, eD aC 256 (dA M.kq c3)), (b 4, eD aC 16 (dA M.kl c3)), (b 5, eD aC 16 (dA M.kh c3)), (b 6, eD aC 12 (dA M.krl c3)), (b 7, eD aC 12 (dA M.krh c3)), (b 8, eD aC 16 (dA M.kx M.xb)), (b 9, eD aC 12 (dA M.ky M.yb)), (b 10, eZ aC 192 M.ai), (b 11, eZ aC 256 M.qi), (b 12, eZ aC 16 M.li), (b 13, eZ aC 16 M.hi), (b 14, eZ aC 12 M.rli), (b 15, eZ aC 12 M.rhi)] → va_S (aW [(b 16, eI aC 440 f), (b 18, eI aC 1200 f1), (b 19, eI aC 1200 f2), (b 20, eI aC 1200 f3), (b 21, eI aC 1200 f4), (b 22, eI aC 1200 f5), (b 0, .inr (6, [.int (iI er), .int (iI M.rw), .int (iI M.cn), .int (iI M.en), .int (iI M.pr), .double (dM M.ko (-3)), .ref (b 1), .ref (b 2), .ref (b 3), .ref (b 4), .ref (b 5), .ref (b 6), .ref (b 7), .ref (b 8), .ref (b 9), .ref (b 10), .ref (b 11), .ref (b 12), .ref (b 13), .ref (b 14), .ref (b 15), .int (iI p2), .ref (b 16), .ref (b 17), .ref (b 18), .ref (b 19), .ref (b 20), .ref (b 21), .ref (b 22)])), (b 17, eI aC 440 z), (b 1, eD aC 192 (dA M.ka c3)), (b 2, eD aC 16 (dA M.kc c3)), (b 3, eD aC 256 (dA M.kq c3)), (b 4, eD aC 16 (dA M.kl c3)), (b 5, eD aC 16 (dA M.kh c3)), (b 6, eD aC 12 (dA M.krl c3)), (b 7, eD aC 12 (dA M.krh c3)), (b 8, eD aC 16 (dA M.kx M.xb)), (b 9, eD aC 12 (dA M.ky M.yb)), (b 10, eZ aC 192 M.ai), (b 11, eZ aC 256 M.qi), (b 12, eZ aC 16 M.li), (b 13, eZ aC 16 M.hi), (b 14, eZ aC 12 M.rli), (b 15, eZ aC 12 M.rhi)]) s.heap H locs → lv_has ls 6 [(1, .int (iI j)), (0, .ref (b 0))] → W p l e (rd 4 120) s m ([.ref (b 0)]).toArray below meth c H locs 0 0 Q (F0 m 136 ls []) := by
                intro nn136
                induction nn136 with
                | zero => intro j h3 x1 x2 x3 x4 x5 p4 H locs ls hj hs3 hnn136; exact absurd hnn136 (by omega)
                | succ nn136 ih136 =>
                  intro j h3 x1 x2 x3 x4 x5 p4 H locs ls hj hs3 hnn136 hP hD hS hl
                  refine lv_iload_n hx hb d_Mo_gap_136 rfl (lv_at hl 0 rfl) ?_
                  refine lv_aload_n hx hb d_Mo_gap_137 rfl (lv_at hl 1 rfl) ?_
                  refine va_get (D := D) (ci := 6) (v := .int (iI M.cn)) (C := R_Mo) (T := F_Mo) (N := 29) hx hb hts i_Mo hown hK hP 6 rfl rfl 2 (by decide) (hts _ wf_Mo_130) (fun _ h9 => h9) rfl d_Mo_gap_138 ?_
                  refine x_icmp_ge (tgt := 356) hx hb d_Mo_gap_141 (by decide) (by omega) (by omega) (fun c_141 => ?_) (fun c_141 => ?_)
                  · have hs9 : SumOk h3 (mGap M) := by rw [show j = M.cn by omega] at hs3; exact hs3
                    refine lv_aload_n hx hb d_Mo_gap_356 rfl (lv_at hl 1 rfl) ?_
                    refine x_callV1F (V := .double (dM (uM (mGap M)) (uE (mGap M)))) S (c_Mo_upwards l D aC b M er p4 (by omega) h3 x1 (mGap M) hs9 ((B_Gap hM).big (by decide))) t_Mo_175 (rm_ok (by decide) (by decide)) hK hN hP hD hS [1, 6] [0] rfl rfl (fun w9 hw => by obtain ⟨g1_3, rfl⟩ := hw; exact ⟨rfl, Nat.le_of_ble_eq_true rfl⟩) 1 6 rfl rfl rfl hl.1 rfl (Nat.le_of_ble_eq_true rfl) d_Mo_gap_357 ⟨Nat.zero_le _, Nat.zero_le _⟩ (fun w1 ws1 H locs e9 hw hP hD hS => ?_)
                    obtain ⟨g1_3, rfl⟩ := hw
                    have e9 : ws1 = [(b 16, eI aC 440 h3), (b 18, eI aC 1200 g1_3), (b 19, eI aC 1200 x2), (b 20, eI aC 1200 x3), (b 21, eI aC 1200 x4), (b 22, eI aC 1200 x5), (b 0, .inr (6, [.int (iI (eU er (mGap M))), .int (iI M.rw), .int (iI M.cn), .int (iI M.en), .int (iI M.pr), .double (dM M.ko (-3)), .ref (b 1), .ref (b 2), .ref (b 3), .ref (b 4), .ref (b 5), .ref (b 6), .ref (b 7), .ref (b 8), .ref (b 9), .ref (b 10), .ref (b 11), .ref (b 12), .ref (b 13), .ref (b 14), .ref (b 15), .int (iI p4), .ref (b 16), .ref (b 17), .ref (b 18), .ref (b 19), .ref (b 20), .ref (b 21), .ref (b 22)])), (b 17, eI aC 440 y), (b 1, eD aC 192 (dA M.ka c3)), (b 2, eD aC 16 (dA M.kc c3)), (b 3, eD aC 256 (dA M.kq c3)), (b 4, eD aC 16 (dA M.kl c3)), (b 5, eD aC 16 (dA M.kh c3)), (b 6, eD aC 12 (dA M.krl c3)), (b 7, eD aC 12 (dA M.krh c3)), (b 8, eD aC 16 (dA M.kx M.xb)), (b 9, eD aC 12 (dA M.ky M.yb)), (b 10, eZ aC 192 M.ai), (b 11, eZ aC 256 M.qi), (b 12, eZ aC 16 M.li), (b 13, eZ aC 16 M.hi), (b 14, eZ aC 12 M.rli), (b 15, eZ aC 12 M.rhi)] := e9
                    subst e9
                    have hu3 := eU_r (er := er) (V := mGap M) (by omega)
                    exact x_dret hx hb hr hlocks hQ (⟨rfl, h3, g1_3, x2, x3, x4, x5, p4, y, rfl, hs9⟩) rfl hP hS d_Mo_gap_360
                  · skip
                    have K185 : ∀ ls : Array Slot, lv_has ls 6 [(1, .int (iI j)), (0, .ref (b 0))] → W p l e (rd 4 120) s m ([.ref (b 0)]).toArray below meth c H locs 0 0 Q (F0 m 185 ls [.int (iI (gU M j))]) := by
                      intro ls hl
                      refine lv_istore_n (lv' := [(2, .int (iI (gU M j))), (1, .int (iI j)), (0, .ref (b 0))]) hx hb d_Mo_gap_185 rfl hl (by decide) rfl (fun ls hl => ?_)
                      have K210 : ∀ ls : Array Slot, lv_has ls 6 [(2, .int (iI (gU M j))), (1, .int (iI j)), (0, .ref (b 0))] → W p l e (rd 4 120) s m ([.ref (b 0)]).toArray below meth c H locs 0 0 Q (F0 m 210 ls [.double (dM (gB M j) (-3))]) := by
                        intro ls hl
                        refine lv_dstore_n (lv' := [(3, .double (dM (gB M j) (-3))), (2, .int (iI (gU M j))), (1, .int (iI j)), (0, .ref (b 0))]) hx hb d_Mo_gap_210 rfl hl (by decide) rfl (fun ls hl => ?_)
                        have hgu := gU_r hM (j := j) (by omega)
                        have hgb := gB_r hM (j := j) (by omega)
                        have hkc := hM.kc j (by omega) (by omega)
                        refine lv_iload_n hx hb d_Mo_gap_211 rfl (lv_at hl 1 rfl) ?_
                        refine x_if_ne (tgt := 218) hx hb d_Mo_gap_212 (by decide) (by omega) (fun c_212 => ?_) (fun c_212 => ?_)
                        · refine lv_aload_n hx hb d_Mo_gap_218 rfl (lv_at hl 3 rfl) ?_
                          refine lv_aload_n hx hb d_Mo_gap_219 rfl (lv_at hl 3 rfl) ?_
                          refine va_get (D := D) (ci := 6) (v := .ref (b 2)) (C := R_Mo) (T := F_Mo) (N := 29) hx hb hts i_Mo hown hK hP 6 rfl rfl 7 (by decide) (hts _ wf_Mo_13) (fun _ h9 => h9) rfl d_Mo_gap_220 ?_
                          refine lv_iload_n hx hb d_Mo_gap_223 rfl (lv_at hl 2 rfl) ?_
                          refine x_dald hx hb hK hP 9 rfl (by omega) (by decide) d_Mo_gap_224 ?_
                          refine x_topd _ _ (M.kc j) (-3) rfl ?_
                          refine lv_dload_n hx hb d_Mo_gap_225 rfl (lv_at hl 0 rfl) ?_
                          refine x_dconst1 hx hb d_Mo_gap_226 ?_
                          refine lv_iconst (v := iI 0) hx hb d_Mo_gap_227 rfl ?_
                          refine lv_iconst (v := iI 1) hx hb d_Mo_gap_228 rfl ?_
                          refine x_callV0F S (c_Mo_add l D aC b M er p4 h3 x1 x2 x3 x4 x5 (M.kc j) (-3) (gB M j) (-3) 1 0 0 1 (0 + su (mC M 2) M.cn.toNat + su (mGR M) M.rw.toNat + su (mGC M) j.toNat) (by omega) (by omega) (by omega) (by omega) (by omega) (by omega) (by omega) (by omega) hs3 (by omega)) t_Mo_168 (rm_ok (by decide) (by decide)) hK hN hP hD hS [0, 1, 2, 3, 4, 5, 6] [] rfl rfl (fun w9 hw => by obtain ⟨s4, g1_4, g2_4, g3_4, g4_4, g5_4, p2_4, rfl, hs4⟩ := hw; exact ⟨rfl, Nat.le_of_ble_eq_true rfl⟩) 6 6 rfl rfl rfl hl.1 rfl (Nat.le_of_ble_eq_true rfl) d_Mo_gap_229 ⟨Nat.zero_le _, Nat.zero_le _⟩ (fun w1 ws1 H locs e9 hw hP hD hS => ?_)
                          obtain ⟨s4, g1_4, g2_4, g3_4, g4_4, g5_4, p2_4, rfl, hs4⟩ := hw
                          have e9 : ws1 = [(b 16, eI aC 440 s4), (b 18, eI aC 1200 g1_4), (b 19, eI aC 1200 g2_4), (b 20, eI aC 1200 g3_4), (b 21, eI aC 1200 g4_4), (b 22, eI aC 1200 g5_4), (b 0, .inr (6, [.int (iI er), .int (iI M.rw), .int (iI M.cn), .int (iI M.en), .int (iI M.pr), .double (dM M.ko (-3)), .ref (b 1), .ref (b 2), .ref (b 3), .ref (b 4), .ref (b 5), .ref (b 6), .ref (b 7), .ref (b 8), .ref (b 9), .ref (b 10), .ref (b 11), .ref (b 12), .ref (b 13), .ref (b 14), .ref (b 15), .int (iI p2_4), .ref (b 16), .ref (b 17), .ref (b 18), .ref (b 19), .ref (b 20), .ref (b 21), .ref (b 22)])), (b 17, eI aC 440 y), (b 1, eD aC 192 (dA M.ka c3)), (b 2, eD aC 16 (dA M.kc c3)), (b 3, eD aC 256 (dA M.kq c3)), (b 4, eD aC 16 (dA M.kl c3)), (b 5, eD aC 16 (dA M.kh c3)), (b 6, eD aC 12 (dA M.krl c3)), (b 7, eD aC 12 (dA M.krh c3)), (b 8, eD aC 16 (dA M.kx M.xb)), (b 9, eD aC 12 (dA M.ky M.yb)), (b 10, eZ aC 192 M.ai), (b 11, eZ aC 256 M.qi), (b 12, eZ aC 16 M.li), (b 13, eZ aC 16 M.hi), (b 14, eZ aC 12 M.rli), (b 15, eZ aC 12 M.rhi)] := e9
                          subst e9
                          refine lv_iconst (v := iI 0) hx hb d_Mo_gap_232 rfl ?_
                          refine lv_istore (lv' := [(5, .int (iI 0)), (3, .double (dM (gB M j) (-3))), (2, .int (iI (gU M j))), (1, .int (iI j)), (0, .ref (b 0))]) hx hb d_Mo_gap_233 hl (by decide) rfl (fun ls hl => ?_)
                          have hs4i := hs4
                          have L235 : ∀ (nn : Nat) (t : Int) (h4 : Int → Int) (v1 : Int → Int) (v2 : Int → Int) (v3 : Int → Int) (v4 : Int → Int) (v5 : Int → Int) (p5 : Int) (H : Heap) (locs : List Loc) (ls : Array Slot), (0 ≤ t ∧ t ≤ M.cn) → (SumOk h4 (0 + su (mC M 2) M.cn.toNat + su (mGR M) M.rw.toNat + su (mGC M) j.toNat + U3 1 (M.kc j) (-3) (gB M j) (-3) 1 0 0 + su (gQ M j (gB M j)) t.toNat)) → M.cn - t < (nn : Int) → va_P D CL [(b 16, eI aC 440 h4), (b 18, eI aC 1200 v1), (b 19, eI aC 1200 v2), (b 20, eI aC 1200 v3), (b 21, eI aC 1200 v4), (b 22, eI aC 1200 v5), (b 0, .inr (6, [.int (iI er), .int (iI M.rw), .int (iI M.cn), .int (iI M.en), .int (iI M.pr), .double (dM M.ko (-3)), .ref (b 1), .ref (b 2), .ref (b 3), .ref (b 4), .ref (b 5), .ref (b 6), .ref (b 7), .ref (b 8), .ref (b 9), .ref (b 10), .ref (b 11), .ref (b 12), .ref (b 13), .ref (b 14), .ref (b 15), .int (iI p5), .ref (b 16), .ref (b 17), .ref (b 18), .ref (b 19), .ref (b 20), .ref (b 21), .ref (b 22)])), (b 17, eI aC 440 y), (b 1, eD aC 192 (dA M.ka c3)), (b 2, eD aC 16 (dA M.kc c3)), (b 3, eD aC 256 (dA M.kq c3)), (b 4, eD aC 16 (dA M.kl c3)), (b 5, eD aC 16 (dA M.kh c3)), (b 6, eD aC 12 (dA M.krl c3)), (b 7, eD aC 12 (dA M.krh c3)), (b 8, eD aC 16 (dA M.kx M.xb)), (b 9, eD aC 12 (dA M.ky M.yb)), (b 10, eZ aC 192 M.ai), (b 11, eZ aC 256 M.qi), (b 12, eZ aC 16 M.li), (b 13, eZ aC 16 M.hi), (b 14, eZ aC 12 M.rli), (b 15, eZ aC 12 M.rhi)] H → va_D (aW [(b 16, eI aC 440 f), (b 18, eI aC 1200 f1), (b 19, eI aC 1200 f2), (b 20, eI aC 1200 f3), (b 21, eI aC 1200 f4), (b 22, eI aC 1200 f5), (b 0, .inr (6, [.int (iI er), .int (iI M.rw), .int (iI M.cn), .int (iI M.en), .int (iI M.pr), .double (dM M.ko (-3)), .ref (b 1), .ref (b 2), .ref (b 3), .ref (b 4), .ref (b 5), .ref (b 6), .ref (b 7), .ref (b 8), .ref (b 9), .ref (b 10), .ref (b 11), .ref (b 12), .ref (b 13), .ref (b 14), .ref (b 15), .int (iI p2), .ref (b 16), .ref (b 17), .ref (b 18), .ref (b 19), .ref (b 20), .ref (b 21), .ref (b 22)])), (b 17, eI aC 440 z), (b 1, eD aC 192 (dA M.ka c3)), (b 2, eD aC 16 (dA M.kc c3)), (b 3, eD aC 256 (dA M.kq c3)), (b 4, eD aC 16 (dA M.kl c3)), (b 5, eD aC 16 (dA M.kh c3)), (b 6, eD aC 12 (dA M.krl c3)), (b 7, eD aC 12 (dA M.krh c3)), (b 8, eD aC 16 (dA M.kx M.xb)), (b 9, eD aC 12 (dA M.ky M.yb)), (b 10, eZ aC 192 M.ai), (b 11, eZ aC 256 M.qi), (b 12, eZ aC 16 M.li), (b 13, eZ aC 16 M.hi), (b 14, eZ aC 12 M.rli), (b 15, eZ aC 12 M.rhi)]) [(b 16, eI aC 440 h4), (b 18, eI aC 1200 v1), (b 19, eI aC 1200 v2), (b 20, eI aC 1200 v3), (b 21, eI aC 1200 v4), (b 22, eI aC 1200 v5), (b 0, .inr (6, [.int (iI er), .int (iI M.rw), .int (iI M.cn), .int (iI M.en), .int (iI M.pr), .double (dM M.ko (-3)), .ref (b 1), .ref (b 2), .ref (b 3), .ref (b 4), .ref (b 5), .ref (b 6), .ref (b 7), .ref (b 8), .ref (b 9), .ref (b 10), .ref (b 11), .ref (b 12), .ref (b 13), .ref (b 14), .ref (b 15), .int (iI p5), .ref (b 16), .ref (b 17), .ref (b 18), .ref (b 19), .ref (b 20), .ref (b 21), .ref (b 22)])), (b 17, eI aC 440 y), (b 1, eD aC 192 (dA M.ka c3)), (b 2, eD aC 16 (dA M.kc c3)), (b 3, eD aC 256 (dA M.kq c3)), (b 4, eD aC 16 (dA M.kl c3)), (b 5, eD aC 16 (dA M.kh c3)), (b 6, eD aC 12 (dA M.krl c3)), (b 7, eD aC 12 (dA M.krh c3)), (b 8, eD aC 16 (dA M.kx M.xb)), (b 9, eD aC 12 (dA M.ky M.yb)), (b 10, eZ aC 192 M.ai), (b 11, eZ aC 256 M.qi), (b 12, eZ aC 16 M.li), (b 13, eZ aC 16 M.hi), (b 14, eZ aC 12 M.rli), (b 15, eZ aC 12 M.rhi)] → va_S (aW [(b 16, eI aC 440 f), (b 18, eI aC 1200 f1), (b 19, eI aC 1200 f2), (b 20, eI aC 1200 f3), (b 21, eI aC 1200 f4), (b 22, eI aC 1200 f5), (b 0, .inr (6, [.int (iI er), .int (iI M.rw), .int (iI M.cn), .int (iI M.en), .int (iI M.pr), .double (dM M.ko (-3)), .ref (b 1), .ref (b 2), .ref (b 3), .ref (b 4), .ref (b 5), .ref (b 6), .ref (b 7), .ref (b 8), .ref (b 9), .ref (b 10), .ref (b 11), .ref (b 12), .ref (b 13), .ref (b 14), .ref (b 15), .int (iI p2), .ref (b 16), .ref (b 17), .ref (b 18), .ref (b 19), .ref (b 20), .ref (b 21), .ref (b 22)])), (b 17, eI aC 440 z), (b 1, eD aC 192 (dA M.ka c3)), (b 2, eD aC 16 (dA M.kc c3)), (b 3, eD aC 256 (dA M.kq c3)), (b 4, eD aC 16 (dA M.kl c3)), (b 5, eD aC 16 (dA M.kh c3)), (b 6, eD aC 12 (dA M.krl c3)), (b 7, eD aC 12 (dA M.krh c3)), (b 8, eD aC 16 (dA M.kx M.xb)), (b 9, eD aC 12 (dA M.ky M.yb)), (b 10, eZ aC 192 M.ai), (b 11, eZ aC 256 M.qi), (b 12, eZ aC 16 M.li), (b 13, eZ aC 16 M.hi), (b 14, eZ aC 12 M.rli), (b 15, eZ aC 12 M.rhi)]) s.heap H locs → lv_has ls 6 [(5, .int (iI t)), (3, .double (dM (gB M j) (-3))), (1, .int (iI j)), (0, .ref (b 0))] → W p l e (rd 4 120) s m ([.ref (b 0)]).toArray below meth c H locs 0 0 Q (F0 m 235 ls []) := by
                            intro nn235
                            induction nn235 with
                            | zero => intro t h4 v1 v2 v3 v4 v5 p5 H locs ls ht hs4 hnn235; exact absurd hnn235 (by omega)
                            | succ nn235 ih235 =>
                              intro t h4 v1 v2 v3 v4 v5 p5 H locs ls ht hs4 hnn235 hP hD hS hl
                              refine lv_iload hx hb d_Mo_gap_235 (lv_at hl 0 rfl) ?_
                              refine lv_aload_n hx hb d_Mo_gap_237 rfl (lv_at hl 3 rfl) ?_
                              refine va_get (D := D) (ci := 6) (v := .int (iI M.cn)) (C := R_Mo) (T := F_Mo) (N := 29) hx hb hts i_Mo hown hK hP 6 rfl rfl 2 (by decide) (hts _ wf_Mo_130) (fun _ h9 => h9) rfl d_Mo_gap_238 ?_
                              refine x_icmp_ge (tgt := 291) hx hb d_Mo_gap_241 (by decide) (by omega) (by omega) (fun c_241 => ?_) (fun c_241 => ?_)
                              · refine lv_iconst (v := iI 0) hx hb d_Mo_gap_291 rfl ?_
                                refine lv_istore (lv' := [(5, .int (iI 0)), (3, .double (dM (gB M j) (-3))), (1, .int (iI j)), (0, .ref (b 0))]) hx hb d_Mo_gap_292 hl (by decide) rfl (fun ls hl => ?_)
                                have hs5i : SumOk h4 (0 + su (mC M 2) M.cn.toNat + su (mGR M) M.rw.toNat + su (mGC M) j.toNat + U3 1 (M.kc j) (-3) (gB M j) (-3) 1 0 0 + su (gQ M j (gB M j)) M.cn.toNat) := by rw [show t = M.cn by omega] at hs4; exact hs4
                                have L294 : ∀ (nn : Nat) (u : Int) (h5 : Int → Int) (w1 : Int → Int) (w2 : Int → Int) (w3 : Int → Int) (w4 : Int → Int) (w5 : Int → Int) (p6 : Int) (H : Heap) (locs : List Loc) (ls : Array Slot), (0 ≤ u ∧ u ≤ M.rw) → (SumOk h5 (0 + su (mC M 2) M.cn.toNat + su (mGR M) M.rw.toNat + su (mGC M) j.toNat + U3 1 (M.kc j) (-3) (gB M j) (-3) 1 0 0 + su (gQ M j (gB M j)) M.cn.toNat + su (gY M j (gB M j)) u.toNat)) → M.rw - u < (nn : Int) → va_P D CL [(b 16, eI aC 440 h5), (b 18, eI aC 1200 w1), (b 19, eI aC 1200 w2), (b 20, eI aC 1200 w3), (b 21, eI aC 1200 w4), (b 22, eI aC 1200 w5), (b 0, .inr (6, [.int (iI er), .int (iI M.rw), .int (iI M.cn), .int (iI M.en), .int (iI M.pr), .double (dM M.ko (-3)), .ref (b 1), .ref (b 2), .ref (b 3), .ref (b 4), .ref (b 5), .ref (b 6), .ref (b 7), .ref (b 8), .ref (b 9), .ref (b 10), .ref (b 11), .ref (b 12), .ref (b 13), .ref (b 14), .ref (b 15), .int (iI p6), .ref (b 16), .ref (b 17), .ref (b 18), .ref (b 19), .ref (b 20), .ref (b 21), .ref (b 22)])), (b 17, eI aC 440 y), (b 1, eD aC 192 (dA M.ka c3)), (b 2, eD aC 16 (dA M.kc c3)), (b 3, eD aC 256 (dA M.kq c3)), (b 4, eD aC 16 (dA M.kl c3)), (b 5, eD aC 16 (dA M.kh c3)), (b 6, eD aC 12 (dA M.krl c3)), (b 7, eD aC 12 (dA M.krh c3)), (b 8, eD aC 16 (dA M.kx M.xb)), (b 9, eD aC 12 (dA M.ky M.yb)), (b 10, eZ aC 192 M.ai), (b 11, eZ aC 256 M.qi), (b 12, eZ aC 16 M.li), (b 13, eZ aC 16 M.hi), (b 14, eZ aC 12 M.rli), (b 15, eZ aC 12 M.rhi)] H → va_D (aW [(b 16, eI aC 440 f), (b 18, eI aC 1200 f1), (b 19, eI aC 1200 f2), (b 20, eI aC 1200 f3), (b 21, eI aC 1200 f4), (b 22, eI aC 1200 f5), (b 0, .inr (6, [.int (iI er), .int (iI M.rw), .int (iI M.cn), .int (iI M.en), .int (iI M.pr), .double (dM M.ko (-3)), .ref (b 1), .ref (b 2), .ref (b 3), .ref (b 4), .ref (b 5), .ref (b 6), .ref (b 7), .ref (b 8), .ref (b 9), .ref (b 10), .ref (b 11), .ref (b 12), .ref (b 13), .ref (b 14), .ref (b 15), .int (iI p2), .ref (b 16), .ref (b 17), .ref (b 18), .ref (b 19), .ref (b 20), .ref (b 21), .ref (b 22)])), (b 17, eI aC 440 z), (b 1, eD aC 192 (dA M.ka c3)), (b 2, eD aC 16 (dA M.kc c3)), (b 3, eD aC 256 (dA M.kq c3)), (b 4, eD aC 16 (dA M.kl c3)), (b 5, eD aC 16 (dA M.kh c3)), (b 6, eD aC 12 (dA M.krl c3)), (b 7, eD aC 12 (dA M.krh c3)), (b 8, eD aC 16 (dA M.kx M.xb)), (b 9, eD aC 12 (dA M.ky M.yb)), (b 10, eZ aC 192 M.ai), (b 11, eZ aC 256 M.qi), (b 12, eZ aC 16 M.li), (b 13, eZ aC 16 M.hi), (b 14, eZ aC 12 M.rli), (b 15, eZ aC 12 M.rhi)]) [(b 16, eI aC 440 h5), (b 18, eI aC 1200 w1), (b 19, eI aC 1200 w2), (b 20, eI aC 1200 w3), (b 21, eI aC 1200 w4), (b 22, eI aC 1200 w5), (b 0, .inr (6, [.int (iI er), .int (iI M.rw), .int (iI M.cn), .int (iI M.en), .int (iI M.pr), .double (dM M.ko (-3)), .ref (b 1), .ref (b 2), .ref (b 3), .ref (b 4), .ref (b 5), .ref (b 6), .ref (b 7), .ref (b 8), .ref (b 9), .ref (b 10), .ref (b 11), .ref (b 12), .ref (b 13), .ref (b 14), .ref (b 15), .int (iI p6), .ref (b 16), .ref (b 17), .ref (b 18), .ref (b 19), .ref (b 20), .ref (b 21), .ref (b 22)])), (b 17, eI aC 440 y), (b 1, eD aC 192 (dA M.ka c3)), (b 2, eD aC 16 (dA M.kc c3)), (b 3, eD aC 256 (dA M.kq c3)), (b 4, eD aC 16 (dA M.kl c3)), (b 5, eD aC 16 (dA M.kh c3)), (b 6, eD aC 12 (dA M.krl c3)), (b 7, eD aC 12 (dA M.krh c3)), (b 8, eD aC 16 (dA M.kx M.xb)), (b 9, eD aC 12 (dA M.ky M.yb)), (b 10, eZ aC 192 M.ai), (b 11, eZ aC 256 M.qi), (b 12, eZ aC 16 M.li), (b 13, eZ aC 16 M.hi), (b 14, eZ aC 12 M.rli), (b 15, eZ aC 12 M.rhi)] → va_S (aW [(b 16, eI aC 440 f), (b 18, eI aC 1200 f1), (b 19, eI aC 1200 f2), (b 20, eI aC 1200 f3), (b 21, eI aC 1200 f4), (b 22, eI aC 1200 f5), (b 0, .inr (6, [.int (iI er), .int (iI M.rw), .int (iI M.cn), .int (iI M.en), .int (iI M.pr), .double (dM M.ko (-3)), .ref (b 1), .ref (b 2), .ref (b 3), .ref (b 4), .ref (b 5), .ref (b 6), .ref (b 7), .ref (b 8), .ref (b 9), .ref (b 10), .ref (b 11), .ref (b 12), .ref (b 13), .ref (b 14), .ref (b 15), .int (iI p2), .ref (b 16), .ref (b 17), .ref (b 18), .ref (b 19), .ref (b 20), .ref (b 21), .ref (b 22)])), (b 17, eI aC 440 z), (b 1, eD aC 192 (dA M.ka c3)), (b 2, eD aC 16 (dA M.kc c3)), (b 3, eD aC 256 (dA M.kq c3)), (b 4, eD aC 16 (dA M.kl c3)), (b 5, eD aC 16 (dA M.kh c3)), (b 6, eD aC 12 (dA M.krl c3)), (b 7, eD aC 12 (dA M.krh c3)), (b 8, eD aC 16 (dA M.kx M.xb)), (b 9, eD aC 12 (dA M.ky M.yb)), (b 10, eZ aC 192 M.ai), (b 11, eZ aC 256 M.qi), (b 12, eZ aC 16 M.li), (b 13, eZ aC 16 M.hi), (b 14, eZ aC 12 M.rli), (b 15, eZ aC 12 M.rhi)]) s.heap H locs → lv_has ls 6 [(5, .int (iI u)), (3, .double (dM (gB M j) (-3))), (1, .int (iI j)), (0, .ref (b 0))] → W p l e (rd 4 120) s m ([.ref (b 0)]).toArray below meth c H locs 0 0 Q (F0 m 294 ls []) := by
                                  intro nn294
                                  induction nn294 with
                                  | zero => intro u h5 w1 w2 w3 w4 w5 p6 H locs ls hu hs5 hnn294; exact absurd hnn294 (by omega)
                                  | succ nn294 ih294 =>
                                    intro u h5 w1 w2 w3 w4 w5 p6 H locs ls hu hs5 hnn294 hP hD hS hl
                                    refine lv_iload hx hb d_Mo_gap_294 (lv_at hl 0 rfl) ?_
                                    refine lv_aload_n hx hb d_Mo_gap_296 rfl (lv_at hl 3 rfl) ?_
                                    refine va_get (D := D) (ci := 6) (v := .int (iI M.rw)) (C := R_Mo) (T := F_Mo) (N := 29) hx hb hts i_Mo hown hK hP 6 rfl rfl 1 (by decide) (hts _ wf_Mo_127) (fun _ h9 => h9) rfl d_Mo_gap_297 ?_
                                    refine x_icmp_ge (tgt := 350) hx hb d_Mo_gap_300 (by decide) (by omega) (by omega) (fun c_300 => ?_) (fun c_300 => ?_)
                                    · refine lv_iinc (v := iI (j + 1)) (lv' := [(1, .int (iI (j + 1))), (5, .int (iI u)), (3, .double (dM (gB M j) (-3))), (0, .ref (b 0))]) hx hb d_Mo_gap_350 hl (k := 2) rfl (iI_add _ _) (by decide) rfl (fun ls hl => ?_)
                                      refine lv_goto (tgt := 136) hx hb d_Mo_gap_353 (by decide) ?_
                                      exact ih136 (j + 1) h5 w1 w2 w3 w4 w5 p6 _ _ ls (by omega) (by
                                        rw [su_s (by omega), show mGC M j = gT M j (gB M j) from if_pos c_212]
                                        have e9 : gT M j (gB M j) = U3 1 (M.kc j) (-3) (gB M j) (-3) 1 0 0 + su (gQ M j (gB M j)) M.cn.toNat + su (gY M j (gB M j)) M.rw.toNat := rfl
                                        rw [show u = M.rw by omega] at hs5
                                        exact hs5.cg (by omega)) (by omega) hP hD hS (lv_sub hl [0, 3] rfl)
                                    · refine lv_aload_n hx hb d_Mo_gap_303 rfl (lv_at hl 3 rfl) ?_
                                      refine va_get (D := D) (ci := 6) (v := .ref (b 10)) (C := R_Mo) (T := F_Mo) (N := 29) hx hb hts i_Mo hown hK hP 6 rfl rfl 15 (by decide) (hts _ wf_Mo_37) (fun _ h9 => h9) rfl d_Mo_gap_304 ?_
                                      refine lv_bipush (v := iI 16) hx hb d_Mo_gap_307 (by decide +kernel) ?_
                                      refine lv_iload hx hb d_Mo_gap_309 (lv_at hl 0 rfl) ?_
                                      refine x_imul hx hb d_Mo_gap_311 ?_
                                      refine lv_iload_n hx hb d_Mo_gap_312 rfl (lv_at hl 2 rfl) ?_
                                      refine x_iadd hx hb d_Mo_gap_313 ?_
                                      have hk1 := hM.ka (16 * u + j) (by omega) (by omega)
                                      have hk2 := hM.ky u (by omega) (by omega)
                                      have hk3 := hM.yb u (by omega) (by omega)
                                      have hk4 := hM.ai (16 * u + j) (by omega) (by omega)
                                      refine x_zald hx hb hK hP 17 rfl (by omega) (by decide) d_Mo_gap_314 ?_
                                      refine x_if_eq (tgt := 344) hx hb d_Mo_gap_315 (by decide) (by omega) (fun c_315 => ?_) (fun c_315 => ?_)
                                      · refine lv_iinc (v := iI (u + 1)) (lv' := [(5, .int (iI (u + 1))), (3, .double (dM (gB M j) (-3))), (1, .int (iI j)), (0, .ref (b 0))]) hx hb d_Mo_gap_344 hl (k := 0) rfl (iI_add _ _) (by decide) rfl (fun ls hl => ?_)
                                        refine lv_goto (tgt := 294) hx hb d_Mo_gap_347 (by decide) ?_
                                        exact ih294 (u + 1) h5 w1 w2 w3 w4 w5 p6 _ _ ls (by omega) (by rw [su_s (by omega), show gY M j (gB M j) u = 0 from if_neg (fun z => z c_315), Int.add_zero]; exact hs5) (by omega) hP hD hS (lv_sub hl [0, 1, 2, 3] rfl)
                                      · refine lv_aload_n hx hb d_Mo_gap_318 rfl (lv_at hl 3 rfl) ?_
                                        refine lv_aload_n hx hb d_Mo_gap_319 rfl (lv_at hl 3 rfl) ?_
                                        refine va_get (D := D) (ci := 6) (v := .ref (b 1)) (C := R_Mo) (T := F_Mo) (N := 29) hx hb hts i_Mo hown hK hP 6 rfl rfl 6 (by decide) (hts _ wf_Mo_9) (fun _ h9 => h9) rfl d_Mo_gap_320 ?_
                                        refine lv_bipush (v := iI 16) hx hb d_Mo_gap_323 (by decide +kernel) ?_
                                        refine lv_iload hx hb d_Mo_gap_325 (lv_at hl 0 rfl) ?_
                                        refine x_imul hx hb d_Mo_gap_327 ?_
                                        refine lv_iload_n hx hb d_Mo_gap_328 rfl (lv_at hl 2 rfl) ?_
                                        refine x_iadd hx hb d_Mo_gap_329 ?_
                                        refine x_dald hx hb hK hP 8 rfl (by omega) (by decide) d_Mo_gap_330 ?_
                                        refine x_topd _ _ (M.ka ((16 * u) + j)) (-3) rfl ?_
                                        refine lv_aload_n hx hb d_Mo_gap_331 rfl (lv_at hl 3 rfl) ?_
                                        refine va_get (D := D) (ci := 6) (v := .ref (b 9)) (C := R_Mo) (T := F_Mo) (N := 29) hx hb hts i_Mo hown hK hP 6 rfl rfl 14 (by decide) (hts _ wf_Mo_34) (fun _ h9 => h9) rfl d_Mo_gap_332 ?_
                                        refine lv_iload hx hb d_Mo_gap_335 (lv_at hl 0 rfl) ?_
                                        refine x_dald hx hb hK hP 16 rfl (by omega) (by decide) d_Mo_gap_337 ?_
                                        refine lv_dload_n hx hb d_Mo_gap_338 rfl (lv_at hl 1 rfl) ?_
                                        refine lv_iconst (v := iI 0) hx hb d_Mo_gap_339 rfl ?_
                                        refine lv_iconst (v := iI 0) hx hb d_Mo_gap_340 rfl ?_
                                        refine x_callV0F S (c_Mo_add l D aC b M er p6 h5 w1 w2 w3 w4 w5 (M.ka ((16 * u) + j)) (-3) (M.ky u) (M.yb u) (gB M j) (-3) 0 0 (0 + su (mC M 2) M.cn.toNat + su (mGR M) M.rw.toNat + su (mGC M) j.toNat + U3 1 (M.kc j) (-3) (gB M j) (-3) 1 0 0 + su (gQ M j (gB M j)) M.cn.toNat + su (gY M j (gB M j)) u.toNat) (by omega) (by omega) (by omega) (by omega) (by omega) (by omega) (by omega) (by omega) hs5 (by omega)) t_Mo_168 (rm_ok (by decide) (by decide)) hK hN hP hD hS [0, 1, 2, 3, 4, 5, 6] [] rfl rfl (fun w9 hw => by obtain ⟨s5, g1_5, g2_5, g3_5, g4_5, g5_5, p2_5, rfl, hs5⟩ := hw; exact ⟨rfl, Nat.le_of_ble_eq_true rfl⟩) 6 6 rfl rfl rfl hl.1 rfl (Nat.le_of_ble_eq_true rfl) d_Mo_gap_341 ⟨Nat.zero_le _, Nat.zero_le _⟩ (fun w1 ws1 H locs e9 hw hP hD hS => ?_)
                                        obtain ⟨s5, g1_5, g2_5, g3_5, g4_5, g5_5, p2_5, rfl, hs5⟩ := hw
                                        have e9 : ws1 = [(b 16, eI aC 440 s5), (b 18, eI aC 1200 g1_5), (b 19, eI aC 1200 g2_5), (b 20, eI aC 1200 g3_5), (b 21, eI aC 1200 g4_5), (b 22, eI aC 1200 g5_5), (b 0, .inr (6, [.int (iI er), .int (iI M.rw), .int (iI M.cn), .int (iI M.en), .int (iI M.pr), .double (dM M.ko (-3)), .ref (b 1), .ref (b 2), .ref (b 3), .ref (b 4), .ref (b 5), .ref (b 6), .ref (b 7), .ref (b 8), .ref (b 9), .ref (b 10), .ref (b 11), .ref (b 12), .ref (b 13), .ref (b 14), .ref (b 15), .int (iI p2_5), .ref (b 16), .ref (b 17), .ref (b 18), .ref (b 19), .ref (b 20), .ref (b 21), .ref (b 22)])), (b 17, eI aC 440 y), (b 1, eD aC 192 (dA M.ka c3)), (b 2, eD aC 16 (dA M.kc c3)), (b 3, eD aC 256 (dA M.kq c3)), (b 4, eD aC 16 (dA M.kl c3)), (b 5, eD aC 16 (dA M.kh c3)), (b 6, eD aC 12 (dA M.krl c3)), (b 7, eD aC 12 (dA M.krh c3)), (b 8, eD aC 16 (dA M.kx M.xb)), (b 9, eD aC 12 (dA M.ky M.yb)), (b 10, eZ aC 192 M.ai), (b 11, eZ aC 256 M.qi), (b 12, eZ aC 16 M.li), (b 13, eZ aC 16 M.hi), (b 14, eZ aC 12 M.rli), (b 15, eZ aC 12 M.rhi)] := e9
                                        subst e9
                                        refine lv_iinc (v := iI (u + 1)) (lv' := [(5, .int (iI (u + 1))), (3, .double (dM (gB M j) (-3))), (1, .int (iI j)), (0, .ref (b 0))]) hx hb d_Mo_gap_344 hl (k := 0) rfl (iI_add _ _) (by decide) rfl (fun ls hl => ?_)
                                        refine lv_goto (tgt := 294) hx hb d_Mo_gap_347 (by decide) ?_
                                        exact ih294 (u + 1) s5 g1_5 g2_5 g3_5 g4_5 g5_5 p2_5 _ _ ls (by omega) (by rw [su_s (by omega), show gY M j (gB M j) u = _ from if_pos c_315, ← Int.add_assoc]; exact hs5) (by omega) hP hD hS (lv_sub hl [0, 1, 2, 3] rfl)
                                exact L294 _ 0 h4 v1 v2 v3 v4 v5 p5 _ _ ls (by omega) (by rw [su_i]; exact hs5i) (n_lt _) hP hD hS (lv_sub hl [0, 1, 2, 3] rfl)
                              · refine lv_aload_n hx hb d_Mo_gap_244 rfl (lv_at hl 3 rfl) ?_
                                refine va_get (D := D) (ci := 6) (v := .ref (b 11)) (C := R_Mo) (T := F_Mo) (N := 29) hx hb hts i_Mo hown hK hP 6 rfl rfl 16 (by decide) (hts _ wf_Mo_41) (fun _ h9 => h9) rfl d_Mo_gap_245 ?_
                                refine lv_bipush (v := iI 16) hx hb d_Mo_gap_248 (by decide +kernel) ?_
                                refine lv_iload hx hb d_Mo_gap_250 (lv_at hl 0 rfl) ?_
                                refine x_imul hx hb d_Mo_gap_252 ?_
                                refine lv_iload_n hx hb d_Mo_gap_253 rfl (lv_at hl 2 rfl) ?_
                                refine x_iadd hx hb d_Mo_gap_254 ?_
                                have hk1 := hM.kq (16 * t + j) (by omega) (by omega)
                                have hk2 := hM.kx t (by omega) (by omega)
                                have hk3 := hM.xb t (by omega) (by omega)
                                have hk4 := hM.qi (16 * t + j) (by omega) (by omega)
                                refine x_zald hx hb hK hP 18 rfl (by omega) (by decide) d_Mo_gap_255 ?_
                                refine x_if_eq (tgt := 285) hx hb d_Mo_gap_256 (by decide) (by omega) (fun c_256 => ?_) (fun c_256 => ?_)
                                · refine lv_iinc (v := iI (t + 1)) (lv' := [(5, .int (iI (t + 1))), (3, .double (dM (gB M j) (-3))), (1, .int (iI j)), (0, .ref (b 0))]) hx hb d_Mo_gap_285 hl (k := 0) rfl (iI_add _ _) (by decide) rfl (fun ls hl => ?_)
                                  refine lv_goto (tgt := 235) hx hb d_Mo_gap_288 (by decide) ?_
                                  exact ih235 (t + 1) h4 v1 v2 v3 v4 v5 p5 _ _ ls (by omega) (by rw [su_s (by omega), show gQ M j (gB M j) t = 0 from if_neg (fun z => z c_256), Int.add_zero]; exact hs4) (by omega) hP hD hS (lv_sub hl [0, 1, 2, 3] rfl)
                                · refine lv_aload_n hx hb d_Mo_gap_259 rfl (lv_at hl 3 rfl) ?_
                                  refine lv_aload_n hx hb d_Mo_gap_260 rfl (lv_at hl 3 rfl) ?_
                                  refine va_get (D := D) (ci := 6) (v := .ref (b 3)) (C := R_Mo) (T := F_Mo) (N := 29) hx hb hts i_Mo hown hK hP 6 rfl rfl 8 (by decide) (hts _ wf_Mo_16) (fun _ h9 => h9) rfl d_Mo_gap_261 ?_
                                  refine lv_bipush (v := iI 16) hx hb d_Mo_gap_264 (by decide +kernel) ?_
                                  refine lv_iload hx hb d_Mo_gap_266 (lv_at hl 0 rfl) ?_
                                  refine x_imul hx hb d_Mo_gap_268 ?_
                                  refine lv_iload_n hx hb d_Mo_gap_269 rfl (lv_at hl 2 rfl) ?_
                                  refine x_iadd hx hb d_Mo_gap_270 ?_
                                  refine x_dald hx hb hK hP 10 rfl (by omega) (by decide) d_Mo_gap_271 ?_
                                  refine x_topd _ _ (M.kq ((16 * t) + j)) (-3) rfl ?_
                                  refine lv_aload_n hx hb d_Mo_gap_272 rfl (lv_at hl 3 rfl) ?_
                                  refine va_get (D := D) (ci := 6) (v := .ref (b 8)) (C := R_Mo) (T := F_Mo) (N := 29) hx hb hts i_Mo hown hK hP 6 rfl rfl 13 (by decide) (hts _ wf_Mo_31) (fun _ h9 => h9) rfl d_Mo_gap_273 ?_
                                  refine lv_iload hx hb d_Mo_gap_276 (lv_at hl 0 rfl) ?_
                                  refine x_dald hx hb hK hP 15 rfl (by omega) (by decide) d_Mo_gap_278 ?_
                                  refine lv_dload_n hx hb d_Mo_gap_279 rfl (lv_at hl 1 rfl) ?_
                                  refine lv_iconst (v := iI 0) hx hb d_Mo_gap_280 rfl ?_
                                  refine lv_iconst (v := iI 1) hx hb d_Mo_gap_281 rfl ?_
                                  refine x_callV0F S (c_Mo_add l D aC b M er p5 h4 v1 v2 v3 v4 v5 (M.kq ((16 * t) + j)) (-3) (M.kx t) (M.xb t) (gB M j) (-3) 0 1 (0 + su (mC M 2) M.cn.toNat + su (mGR M) M.rw.toNat + su (mGC M) j.toNat + U3 1 (M.kc j) (-3) (gB M j) (-3) 1 0 0 + su (gQ M j (gB M j)) t.toNat) (by omega) (by omega) (by omega) (by omega) (by omega) (by omega) (by omega) (by omega) hs4 (by omega)) t_Mo_168 (rm_ok (by decide) (by decide)) hK hN hP hD hS [0, 1, 2, 3, 4, 5, 6] [] rfl rfl (fun w9 hw => by obtain ⟨s6, g1_6, g2_6, g3_6, g4_6, g5_6, p2_6, rfl, hs6⟩ := hw; exact ⟨rfl, Nat.le_of_ble_eq_true rfl⟩) 6 6 rfl rfl rfl hl.1 rfl (Nat.le_of_ble_eq_true rfl) d_Mo_gap_282 ⟨Nat.zero_le _, Nat.zero_le _⟩ (fun w1 ws1 H locs e9 hw hP hD hS => ?_)
                                  obtain ⟨s6, g1_6, g2_6, g3_6, g4_6, g5_6, p2_6, rfl, hs6⟩ := hw
                                  have e9 : ws1 = [(b 16, eI aC 440 s6), (b 18, eI aC 1200 g1_6), (b 19, eI aC 1200 g2_6), (b 20, eI aC 1200 g3_6), (b 21, eI aC 1200 g4_6), (b 22, eI aC 1200 g5_6), (b 0, .inr (6, [.int (iI er), .int (iI M.rw), .int (iI M.cn), .int (iI M.en), .int (iI M.pr), .double (dM M.ko (-3)), .ref (b 1), .ref (b 2), .ref (b 3), .ref (b 4), .ref (b 5), .ref (b 6), .ref (b 7), .ref (b 8), .ref (b 9), .ref (b 10), .ref (b 11), .ref (b 12), .ref (b 13), .ref (b 14), .ref (b 15), .int (iI p2_6), .ref (b 16), .ref (b 17), .ref (b 18), .ref (b 19), .ref (b 20), .ref (b 21), .ref (b 22)])), (b 17, eI aC 440 y), (b 1, eD aC 192 (dA M.ka c3)), (b 2, eD aC 16 (dA M.kc c3)), (b 3, eD aC 256 (dA M.kq c3)), (b 4, eD aC 16 (dA M.kl c3)), (b 5, eD aC 16 (dA M.kh c3)), (b 6, eD aC 12 (dA M.krl c3)), (b 7, eD aC 12 (dA M.krh c3)), (b 8, eD aC 16 (dA M.kx M.xb)), (b 9, eD aC 12 (dA M.ky M.yb)), (b 10, eZ aC 192 M.ai), (b 11, eZ aC 256 M.qi), (b 12, eZ aC 16 M.li), (b 13, eZ aC 16 M.hi), (b 14, eZ aC 12 M.rli), (b 15, eZ aC 12 M.rhi)] := e9
                                  subst e9
                                  refine lv_iinc (v := iI (t + 1)) (lv' := [(5, .int (iI (t + 1))), (3, .double (dM (gB M j) (-3))), (1, .int (iI j)), (0, .ref (b 0))]) hx hb d_Mo_gap_285 hl (k := 0) rfl (iI_add _ _) (by decide) rfl (fun ls hl => ?_)
                                  refine lv_goto (tgt := 235) hx hb d_Mo_gap_288 (by decide) ?_
                                  exact ih235 (t + 1) s6 g1_6 g2_6 g3_6 g4_6 g5_6 p2_6 _ _ ls (by omega) (by rw [su_s (by omega), show gQ M j (gB M j) t = _ from if_pos c_256, ← Int.add_assoc]; exact hs6) (by omega) hP hD hS (lv_sub hl [0, 1, 2, 3] rfl)
                          exact L235 _ 0 s4 g1_4 g2_4 g3_4 g4_4 g5_4 p2_4 _ _ ls (by omega) (by rw [su_i]; exact hs4i) (n_lt _) hP hD hS (lv_sub hl [0, 1, 3, 4] rfl)
                        · refine lv_goto (tgt := 350) hx hb d_Mo_gap_215 (by decide) ?_
                          refine lv_iinc (v := iI (j + 1)) (lv' := [(1, .int (iI (j + 1))), (3, .double (dM (gB M j) (-3))), (2, .int (iI (gU M j))), (0, .ref (b 0))]) hx hb d_Mo_gap_350 hl (k := 2) rfl (iI_add _ _) (by decide) rfl (fun ls hl => ?_)
                          refine lv_goto (tgt := 136) hx hb d_Mo_gap_353 (by decide) ?_
                          exact ih136 (j + 1) h3 x1 x2 x3 x4 x5 p4 _ _ ls (by omega) (by rw [su_s (by omega), show mGC M j = 0 from if_neg (fun z => z c_212), Int.add_zero]; exact hs3) (by omega) hP hD hS (lv_sub hl [0, 3] rfl)
                      have hsg := sgI_q (mR M j)
                      have hzj := hz9 j (by omega) (by omega)
                      have hl9 := hM.li j (by omega) (by omega)
                      have hh9 := hM.hi j (by omega) (by omega)
                      refine lv_aload_n hx hb d_Mo_gap_186 rfl (lv_at hl 2 rfl) ?_
                      refine va_get (D := D) (ci := 6) (v := .ref (b 17)) (C := R_Mo) (T := F_Mo) (N := 29) hx hb hts i_Mo hown hK hP 6 rfl rfl 23 (by decide) (hts _ wf_Mo_60) (fun _ h9 => h9) rfl d_Mo_gap_187 ?_
                      refine lv_iload_n hx hb d_Mo_gap_190 rfl (lv_at hl 1 rfl) ?_
                      refine x_iald hx hb hK hP 7 rfl (by omega) (by decide) d_Mo_gap_191 ?_
                      refine x_if_le (tgt := 204) hx hb d_Mo_gap_192 (by decide) (by omega) (fun c_192 => ?_) (fun c_192 => ?_)
                      · refine lv_aload_n hx hb d_Mo_gap_204 rfl (lv_at hl 2 rfl) ?_
                        refine va_get (D := D) (ci := 6) (v := .ref (b 5)) (C := R_Mo) (T := F_Mo) (N := 29) hx hb hts i_Mo hown hK hP 6 rfl rfl 10 (by decide) (hts _ wf_Mo_22) (fun _ h9 => h9) rfl d_Mo_gap_205 ?_
                        refine lv_iload_n hx hb d_Mo_gap_208 rfl (lv_at hl 1 rfl) ?_
                        refine x_dald hx hb hK hP 12 rfl (by omega) (by decide) d_Mo_gap_209 ?_
                        refine x_topd _ _ (M.kh j) (-3) rfl ?_
                        refine x_topd _ _ (gB M j) (-3) (by rw [show gB M j = M.kh j from if_neg (fun z => by have := hsg.2.2.mpr z; omega)]) ?_
                        exact K210 ls hl
                      · refine lv_aload_n hx hb d_Mo_gap_195 rfl (lv_at hl 2 rfl) ?_
                        refine va_get (D := D) (ci := 6) (v := .ref (b 4)) (C := R_Mo) (T := F_Mo) (N := 29) hx hb hts i_Mo hown hK hP 6 rfl rfl 9 (by decide) (hts _ wf_Mo_19) (fun _ h9 => h9) rfl d_Mo_gap_196 ?_
                        refine lv_iload_n hx hb d_Mo_gap_199 rfl (lv_at hl 1 rfl) ?_
                        refine x_dald hx hb hK hP 11 rfl (by omega) (by decide) d_Mo_gap_200 ?_
                        refine x_topd _ _ (M.kl j) (-3) rfl ?_
                        refine lv_goto (tgt := 210) hx hb d_Mo_gap_201 (by decide) ?_
                        refine x_topd _ _ (gB M j) (-3) (by rw [show gB M j = M.kl j from if_pos (hsg.2.2.mp (by omega))]) ?_
                        exact K210 ls hl
                    have hsg := sgI_q (mR M j)
                    have hzj := hz9 j (by omega) (by omega)
                    have hl9 := hM.li j (by omega) (by omega)
                    have hh9 := hM.hi j (by omega) (by omega)
                    refine lv_aload_n hx hb d_Mo_gap_144 rfl (lv_at hl 1 rfl) ?_
                    refine va_get (D := D) (ci := 6) (v := .ref (b 17)) (C := R_Mo) (T := F_Mo) (N := 29) hx hb hts i_Mo hown hK hP 6 rfl rfl 23 (by decide) (hts _ wf_Mo_60) (fun _ h9 => h9) rfl d_Mo_gap_145 ?_
                    refine lv_iload_n hx hb d_Mo_gap_148 rfl (lv_at hl 0 rfl) ?_
                    refine x_iald hx hb hK hP 7 rfl (by omega) (by decide) d_Mo_gap_149 ?_
                    refine x_if_le (tgt := 162) hx hb d_Mo_gap_150 (by decide) (by omega) (fun c_150 => ?_) (fun c_150 => ?_)
                    · refine lv_aload_n hx hb d_Mo_gap_162 rfl (lv_at hl 1 rfl) ?_
                      refine va_get (D := D) (ci := 6) (v := .ref (b 17)) (C := R_Mo) (T := F_Mo) (N := 29) hx hb hts i_Mo hown hK hP 6 rfl rfl 23 (by decide) (hts _ wf_Mo_60) (fun _ h9 => h9) rfl d_Mo_gap_163 ?_
                      refine lv_iload_n hx hb d_Mo_gap_166 rfl (lv_at hl 0 rfl) ?_
                      refine x_iald hx hb hK hP 7 rfl (by omega) (by decide) d_Mo_gap_167 ?_
                      refine x_if_ge (tgt := 184) hx hb d_Mo_gap_168 (by decide) (by omega) (fun c_168 => ?_) (fun c_168 => ?_)
                      · refine lv_iconst (v := iI 0) hx hb d_Mo_gap_184 rfl ?_
                        refine x_top _ (gU M j) (((if_neg (fun z => by have := hsg.2.2.mpr z; omega)).trans (if_neg (fun z => by have := hsg.2.1.mpr z.1; omega))).symm) ?_
                        exact K185 ls hl
                      · refine lv_aload_n hx hb d_Mo_gap_171 rfl (lv_at hl 1 rfl) ?_
                        refine va_get (D := D) (ci := 6) (v := .ref (b 13)) (C := R_Mo) (T := F_Mo) (N := 29) hx hb hts i_Mo hown hK hP 6 rfl rfl 18 (by decide) (hts _ wf_Mo_47) (fun _ h9 => h9) rfl d_Mo_gap_172 ?_
                        refine lv_iload_n hx hb d_Mo_gap_175 rfl (lv_at hl 0 rfl) ?_
                        refine x_zald hx hb hK hP 20 rfl (by omega) (by decide) d_Mo_gap_176 ?_
                        refine x_if_eq (tgt := 184) hx hb d_Mo_gap_177 (by decide) (by omega) (fun c_177 => ?_) (fun c_177 => ?_)
                        · refine lv_iconst (v := iI 0) hx hb d_Mo_gap_184 rfl ?_
                          refine x_top _ (gU M j) (((if_neg (fun z => by have := hsg.2.2.mpr z; omega)).trans (if_neg (fun z => by have := hsg.2.1.mpr z.1; omega))).symm) ?_
                          exact K185 ls hl
                        · refine lv_iconst (v := iI 1) hx hb d_Mo_gap_180 rfl ?_
                          refine lv_goto (tgt := 185) hx hb d_Mo_gap_181 (by decide) ?_
                          refine x_top _ (gU M j) (((if_neg (fun z => by have := hsg.2.2.mpr z; omega)).trans (if_pos ⟨hsg.2.1.mp (by omega), c_177⟩)).symm) ?_
                          exact K185 ls hl
                    · refine lv_aload_n hx hb d_Mo_gap_153 rfl (lv_at hl 1 rfl) ?_
                      refine va_get (D := D) (ci := 6) (v := .ref (b 12)) (C := R_Mo) (T := F_Mo) (N := 29) hx hb hts i_Mo hown hK hP 6 rfl rfl 17 (by decide) (hts _ wf_Mo_44) (fun _ h9 => h9) rfl d_Mo_gap_154 ?_
                      refine lv_iload_n hx hb d_Mo_gap_157 rfl (lv_at hl 0 rfl) ?_
                      refine x_zald hx hb hK hP 19 rfl (by omega) (by decide) d_Mo_gap_158 ?_
                      refine lv_goto (tgt := 185) hx hb d_Mo_gap_159 (by decide) ?_
                      refine x_top _ (gU M j) ((if_pos (hsg.2.2.mp (by omega))).symm) ?_
                      exact K185 ls hl
              exact L136 _ 0 h2 d1 d2 d3 d4 d5 p3 _ _ ls (by omega) (by rw [su_i]; exact hs1) (n_lt _) hP hD hS (lv_sub hl [0, 1] rfl)
            · have hky := hM.ky i (by omega) (by omega)
              have hyb := hM.yb i (by omega) (by omega)
              have hrl := hM.krl i (by omega) (by omega)
              have hrh := hM.krh i (by omega) (by omega)
              have hz1 := hM.rli i (by omega) (by omega)
              have hz2 := hM.rhi i (by omega) (by omega)
              refine lv_aload_n hx hb d_Mo_gap_50 rfl (lv_at hl 1 rfl) ?_
              refine va_get (D := D) (ci := 6) (v := .ref (b 9)) (C := R_Mo) (T := F_Mo) (N := 29) hx hb hts i_Mo hown hK hP 6 rfl rfl 14 (by decide) (hts _ wf_Mo_34) (fun _ h9 => h9) rfl d_Mo_gap_51 ?_
              refine lv_iload_n hx hb d_Mo_gap_54 rfl (lv_at hl 0 rfl) ?_
              refine x_dald hx hb hK hP 16 rfl (by omega) (by decide) d_Mo_gap_55 ?_
              refine x_dconst0 hx hb d_Mo_gap_56 ?_
              refine x_dcmp_le (tgt := 89) hx hb d_Mo_gap_57 d_Mo_gap_58 (by decide) (by unfold dOk; omega) (by unfold dOk; omega) (fun c_57 => ?_) (fun c_57 => ?_)
              · have d_57 := zs_le.mp c_57
                refine lv_aload_n hx hb d_Mo_gap_89 rfl (lv_at hl 1 rfl) ?_
                refine va_get (D := D) (ci := 6) (v := .ref (b 9)) (C := R_Mo) (T := F_Mo) (N := 29) hx hb hts i_Mo hown hK hP 6 rfl rfl 14 (by decide) (hts _ wf_Mo_34) (fun _ h9 => h9) rfl d_Mo_gap_90 ?_
                refine lv_iload_n hx hb d_Mo_gap_93 rfl (lv_at hl 0 rfl) ?_
                refine x_dald hx hb hK hP 16 rfl (by omega) (by decide) d_Mo_gap_94 ?_
                refine x_dconst0 hx hb d_Mo_gap_95 ?_
                refine x_dcmp_ge (tgt := 128) hx hb d_Mo_gap_96 d_Mo_gap_97 (by decide) (by unfold dOk; omega) (by unfold dOk; omega) (fun c_96 => ?_) (fun c_96 => ?_)
                · have d_96 := zs_ge.mp c_96
                  refine lv_iinc (v := iI (i + 1)) (lv' := [(1, .int (iI (i + 1))), (0, .ref (b 0))]) hx hb d_Mo_gap_128 hl (k := 0) rfl (iI_add _ _) (by decide) rfl (fun ls hl => ?_)
                  refine lv_goto (tgt := 42) hx hb d_Mo_gap_131 (by decide) ?_
                  exact ih42 (i + 1) h2 d1 d2 d3 d4 d5 p3 _ _ ls (by omega) (by rw [su_s (by omega), show mGR M i = _ from (if_neg (fun z => by omega)).trans (if_neg (fun z => by omega)), Int.add_zero]; exact hs2) (by omega) hP hD hS (lv_sub hl [0, 1] rfl)
                · have d_96 : ¬ 0 ≤ M.ky i := fun z => c_96 (zs_ge.mpr z)
                  refine lv_aload_n hx hb d_Mo_gap_100 rfl (lv_at hl 1 rfl) ?_
                  refine va_get (D := D) (ci := 6) (v := .ref (b 15)) (C := R_Mo) (T := F_Mo) (N := 29) hx hb hts i_Mo hown hK hP 6 rfl rfl 20 (by decide) (hts _ wf_Mo_53) (fun _ h9 => h9) rfl d_Mo_gap_101 ?_
                  refine lv_iload_n hx hb d_Mo_gap_104 rfl (lv_at hl 0 rfl) ?_
                  refine x_zald hx hb hK hP 22 rfl (by omega) (by decide) d_Mo_gap_105 ?_
                  refine x_if_eq (tgt := 128) hx hb d_Mo_gap_106 (by decide) (by omega) (fun c_106 => ?_) (fun c_106 => ?_)
                  · refine lv_iinc (v := iI (i + 1)) (lv' := [(1, .int (iI (i + 1))), (0, .ref (b 0))]) hx hb d_Mo_gap_128 hl (k := 0) rfl (iI_add _ _) (by decide) rfl (fun ls hl => ?_)
                    refine lv_goto (tgt := 42) hx hb d_Mo_gap_131 (by decide) ?_
                    exact ih42 (i + 1) h2 d1 d2 d3 d4 d5 p3 _ _ ls (by omega) (by rw [su_s (by omega), show mGR M i = _ from (if_neg (fun z => by omega)).trans (if_neg (fun z => by omega)), Int.add_zero]; exact hs2) (by omega) hP hD hS (lv_sub hl [0, 1] rfl)
                  · refine lv_aload_n hx hb d_Mo_gap_109 rfl (lv_at hl 1 rfl) ?_
                    refine lv_aload_n hx hb d_Mo_gap_110 rfl (lv_at hl 1 rfl) ?_
                    refine va_get (D := D) (ci := 6) (v := .ref (b 9)) (C := R_Mo) (T := F_Mo) (N := 29) hx hb hts i_Mo hown hK hP 6 rfl rfl 14 (by decide) (hts _ wf_Mo_34) (fun _ h9 => h9) rfl d_Mo_gap_111 ?_
                    refine lv_iload_n hx hb d_Mo_gap_114 rfl (lv_at hl 0 rfl) ?_
                    refine x_dald hx hb hK hP 16 rfl (by omega) (by decide) d_Mo_gap_115 ?_
                    refine lv_aload_n hx hb d_Mo_gap_116 rfl (lv_at hl 1 rfl) ?_
                    refine va_get (D := D) (ci := 6) (v := .ref (b 7)) (C := R_Mo) (T := F_Mo) (N := 29) hx hb hts i_Mo hown hK hP 6 rfl rfl 12 (by decide) (hts _ wf_Mo_28) (fun _ h9 => h9) rfl d_Mo_gap_117 ?_
                    refine lv_iload_n hx hb d_Mo_gap_120 rfl (lv_at hl 0 rfl) ?_
                    refine x_dald hx hb hK hP 14 rfl (by omega) (by decide) d_Mo_gap_121 ?_
                    refine x_topd _ _ (M.krh i) (-3) rfl ?_
                    refine x_dconst1 hx hb d_Mo_gap_122 ?_
                    refine lv_iconst (v := iI 0) hx hb d_Mo_gap_123 rfl ?_
                    refine lv_iconst (v := iI 1) hx hb d_Mo_gap_124 rfl ?_
                    refine x_callV0F S (c_Mo_add l D aC b M er p3 h2 d1 d2 d3 d4 d5 (M.ky i) (M.yb i) (M.krh i) (-3) 1 0 0 1 (0 + su (mC M 2) M.cn.toNat + su (mGR M) i.toNat) (by omega) (by omega) (by omega) (by omega) (by omega) (by omega) (by omega) (by omega) hs2 (by omega)) t_Mo_168 (rm_ok (by decide) (by decide)) hK hN hP hD hS [0, 1, 2, 3, 4, 5, 6] [] rfl rfl (fun w9 hw => by obtain ⟨s7, g1_7, g2_7, g3_7, g4_7, g5_7, p2_7, rfl, hs7⟩ := hw; exact ⟨rfl, Nat.le_of_ble_eq_true rfl⟩) 6 6 rfl rfl rfl hl.1 rfl (Nat.le_of_ble_eq_true rfl) d_Mo_gap_125 ⟨Nat.zero_le _, Nat.zero_le _⟩ (fun w1 ws1 H locs e9 hw hP hD hS => ?_)
                    obtain ⟨s7, g1_7, g2_7, g3_7, g4_7, g5_7, p2_7, rfl, hs7⟩ := hw
                    have e9 : ws1 = [(b 16, eI aC 440 s7), (b 18, eI aC 1200 g1_7), (b 19, eI aC 1200 g2_7), (b 20, eI aC 1200 g3_7), (b 21, eI aC 1200 g4_7), (b 22, eI aC 1200 g5_7), (b 0, .inr (6, [.int (iI er), .int (iI M.rw), .int (iI M.cn), .int (iI M.en), .int (iI M.pr), .double (dM M.ko (-3)), .ref (b 1), .ref (b 2), .ref (b 3), .ref (b 4), .ref (b 5), .ref (b 6), .ref (b 7), .ref (b 8), .ref (b 9), .ref (b 10), .ref (b 11), .ref (b 12), .ref (b 13), .ref (b 14), .ref (b 15), .int (iI p2_7), .ref (b 16), .ref (b 17), .ref (b 18), .ref (b 19), .ref (b 20), .ref (b 21), .ref (b 22)])), (b 17, eI aC 440 y), (b 1, eD aC 192 (dA M.ka c3)), (b 2, eD aC 16 (dA M.kc c3)), (b 3, eD aC 256 (dA M.kq c3)), (b 4, eD aC 16 (dA M.kl c3)), (b 5, eD aC 16 (dA M.kh c3)), (b 6, eD aC 12 (dA M.krl c3)), (b 7, eD aC 12 (dA M.krh c3)), (b 8, eD aC 16 (dA M.kx M.xb)), (b 9, eD aC 12 (dA M.ky M.yb)), (b 10, eZ aC 192 M.ai), (b 11, eZ aC 256 M.qi), (b 12, eZ aC 16 M.li), (b 13, eZ aC 16 M.hi), (b 14, eZ aC 12 M.rli), (b 15, eZ aC 12 M.rhi)] := e9
                    subst e9
                    refine lv_iinc (v := iI (i + 1)) (lv' := [(1, .int (iI (i + 1))), (0, .ref (b 0))]) hx hb d_Mo_gap_128 hl (k := 0) rfl (iI_add _ _) (by decide) rfl (fun ls hl => ?_)
                    refine lv_goto (tgt := 42) hx hb d_Mo_gap_131 (by decide) ?_
                    exact ih42 (i + 1) s7 g1_7 g2_7 g3_7 g4_7 g5_7 p2_7 _ _ ls (by omega) (by rw [su_s (by omega), show mGR M i = _ from (if_neg (fun z => by omega)).trans (if_pos ⟨by omega, c_106⟩), ← Int.add_assoc]; exact hs7) (by omega) hP hD hS (lv_sub hl [0, 1] rfl)
              · have d_57 : ¬ M.ky i ≤ 0 := fun z => c_57 (zs_le.mpr z)
                refine lv_aload_n hx hb d_Mo_gap_61 rfl (lv_at hl 1 rfl) ?_
                refine va_get (D := D) (ci := 6) (v := .ref (b 14)) (C := R_Mo) (T := F_Mo) (N := 29) hx hb hts i_Mo hown hK hP 6 rfl rfl 19 (by decide) (hts _ wf_Mo_50) (fun _ h9 => h9) rfl d_Mo_gap_62 ?_
                refine lv_iload_n hx hb d_Mo_gap_65 rfl (lv_at hl 0 rfl) ?_
                refine x_zald hx hb hK hP 21 rfl (by omega) (by decide) d_Mo_gap_66 ?_
                refine x_if_eq (tgt := 89) hx hb d_Mo_gap_67 (by decide) (by omega) (fun c_67 => ?_) (fun c_67 => ?_)
                · refine lv_aload_n hx hb d_Mo_gap_89 rfl (lv_at hl 1 rfl) ?_
                  refine va_get (D := D) (ci := 6) (v := .ref (b 9)) (C := R_Mo) (T := F_Mo) (N := 29) hx hb hts i_Mo hown hK hP 6 rfl rfl 14 (by decide) (hts _ wf_Mo_34) (fun _ h9 => h9) rfl d_Mo_gap_90 ?_
                  refine lv_iload_n hx hb d_Mo_gap_93 rfl (lv_at hl 0 rfl) ?_
                  refine x_dald hx hb hK hP 16 rfl (by omega) (by decide) d_Mo_gap_94 ?_
                  refine x_dconst0 hx hb d_Mo_gap_95 ?_
                  refine x_dcmp_ge (tgt := 128) hx hb d_Mo_gap_96 d_Mo_gap_97 (by decide) (by unfold dOk; omega) (by unfold dOk; omega) (fun c_96 => ?_) (fun c_96 => (absurd (zs_ge.mpr (by omega)) c_96))
                  refine lv_iinc (v := iI (i + 1)) (lv' := [(1, .int (iI (i + 1))), (0, .ref (b 0))]) hx hb d_Mo_gap_128 hl (k := 0) rfl (iI_add _ _) (by decide) rfl (fun ls hl => ?_)
                  refine lv_goto (tgt := 42) hx hb d_Mo_gap_131 (by decide) ?_
                  exact ih42 (i + 1) h2 d1 d2 d3 d4 d5 p3 _ _ ls (by omega) (by rw [su_s (by omega), show mGR M i = _ from (if_neg (fun z => by omega)).trans (if_neg (fun z => by omega)), Int.add_zero]; exact hs2) (by omega) hP hD hS (lv_sub hl [0, 1] rfl)
                · refine lv_aload_n hx hb d_Mo_gap_70 rfl (lv_at hl 1 rfl) ?_
                  refine lv_aload_n hx hb d_Mo_gap_71 rfl (lv_at hl 1 rfl) ?_
                  refine va_get (D := D) (ci := 6) (v := .ref (b 9)) (C := R_Mo) (T := F_Mo) (N := 29) hx hb hts i_Mo hown hK hP 6 rfl rfl 14 (by decide) (hts _ wf_Mo_34) (fun _ h9 => h9) rfl d_Mo_gap_72 ?_
                  refine lv_iload_n hx hb d_Mo_gap_75 rfl (lv_at hl 0 rfl) ?_
                  refine x_dald hx hb hK hP 16 rfl (by omega) (by decide) d_Mo_gap_76 ?_
                  refine lv_aload_n hx hb d_Mo_gap_77 rfl (lv_at hl 1 rfl) ?_
                  refine va_get (D := D) (ci := 6) (v := .ref (b 6)) (C := R_Mo) (T := F_Mo) (N := 29) hx hb hts i_Mo hown hK hP 6 rfl rfl 11 (by decide) (hts _ wf_Mo_25) (fun _ h9 => h9) rfl d_Mo_gap_78 ?_
                  refine lv_iload_n hx hb d_Mo_gap_81 rfl (lv_at hl 0 rfl) ?_
                  refine x_dald hx hb hK hP 13 rfl (by omega) (by decide) d_Mo_gap_82 ?_
                  refine x_topd _ _ (M.krl i) (-3) rfl ?_
                  refine x_dconst1 hx hb d_Mo_gap_83 ?_
                  refine lv_iconst (v := iI 0) hx hb d_Mo_gap_84 rfl ?_
                  refine lv_iconst (v := iI 1) hx hb d_Mo_gap_85 rfl ?_
                  refine x_callV0F S (c_Mo_add l D aC b M er p3 h2 d1 d2 d3 d4 d5 (M.ky i) (M.yb i) (M.krl i) (-3) 1 0 0 1 (0 + su (mC M 2) M.cn.toNat + su (mGR M) i.toNat) (by omega) (by omega) (by omega) (by omega) (by omega) (by omega) (by omega) (by omega) hs2 (by omega)) t_Mo_168 (rm_ok (by decide) (by decide)) hK hN hP hD hS [0, 1, 2, 3, 4, 5, 6] [] rfl rfl (fun w9 hw => by obtain ⟨s8, g1_8, g2_8, g3_8, g4_8, g5_8, p2_8, rfl, hs8⟩ := hw; exact ⟨rfl, Nat.le_of_ble_eq_true rfl⟩) 6 6 rfl rfl rfl hl.1 rfl (Nat.le_of_ble_eq_true rfl) d_Mo_gap_86 ⟨Nat.zero_le _, Nat.zero_le _⟩ (fun w1 ws1 H locs e9 hw hP hD hS => ?_)
                  obtain ⟨s8, g1_8, g2_8, g3_8, g4_8, g5_8, p2_8, rfl, hs8⟩ := hw
                  have e9 : ws1 = [(b 16, eI aC 440 s8), (b 18, eI aC 1200 g1_8), (b 19, eI aC 1200 g2_8), (b 20, eI aC 1200 g3_8), (b 21, eI aC 1200 g4_8), (b 22, eI aC 1200 g5_8), (b 0, .inr (6, [.int (iI er), .int (iI M.rw), .int (iI M.cn), .int (iI M.en), .int (iI M.pr), .double (dM M.ko (-3)), .ref (b 1), .ref (b 2), .ref (b 3), .ref (b 4), .ref (b 5), .ref (b 6), .ref (b 7), .ref (b 8), .ref (b 9), .ref (b 10), .ref (b 11), .ref (b 12), .ref (b 13), .ref (b 14), .ref (b 15), .int (iI p2_8), .ref (b 16), .ref (b 17), .ref (b 18), .ref (b 19), .ref (b 20), .ref (b 21), .ref (b 22)])), (b 17, eI aC 440 y), (b 1, eD aC 192 (dA M.ka c3)), (b 2, eD aC 16 (dA M.kc c3)), (b 3, eD aC 256 (dA M.kq c3)), (b 4, eD aC 16 (dA M.kl c3)), (b 5, eD aC 16 (dA M.kh c3)), (b 6, eD aC 12 (dA M.krl c3)), (b 7, eD aC 12 (dA M.krh c3)), (b 8, eD aC 16 (dA M.kx M.xb)), (b 9, eD aC 12 (dA M.ky M.yb)), (b 10, eZ aC 192 M.ai), (b 11, eZ aC 256 M.qi), (b 12, eZ aC 16 M.li), (b 13, eZ aC 16 M.hi), (b 14, eZ aC 12 M.rli), (b 15, eZ aC 12 M.rhi)] := e9
                  subst e9
                  refine lv_aload_n hx hb d_Mo_gap_89 rfl (lv_at hl 1 rfl) ?_
                  refine va_get (D := D) (ci := 6) (v := .ref (b 9)) (C := R_Mo) (T := F_Mo) (N := 29) hx hb hts i_Mo hown hK hP 6 rfl rfl 14 (by decide) (hts _ wf_Mo_34) (fun _ h9 => h9) rfl d_Mo_gap_90 ?_
                  refine lv_iload_n hx hb d_Mo_gap_93 rfl (lv_at hl 0 rfl) ?_
                  refine x_dald hx hb hK hP 16 rfl (by omega) (by decide) d_Mo_gap_94 ?_
                  refine x_dconst0 hx hb d_Mo_gap_95 ?_
                  refine x_dcmp_ge (tgt := 128) hx hb d_Mo_gap_96 d_Mo_gap_97 (by decide) (by unfold dOk; omega) (by unfold dOk; omega) (fun c_96 => ?_) (fun c_96 => (absurd (zs_ge.mpr (by omega)) c_96))
                  refine lv_iinc (v := iI (i + 1)) (lv' := [(1, .int (iI (i + 1))), (0, .ref (b 0))]) hx hb d_Mo_gap_128 hl (k := 0) rfl (iI_add _ _) (by decide) rfl (fun ls hl => ?_)
                  refine lv_goto (tgt := 42) hx hb d_Mo_gap_131 (by decide) ?_
                  exact ih42 (i + 1) s8 g1_8 g2_8 g3_8 g4_8 g5_8 p2_8 _ _ ls (by omega) (by rw [su_s (by omega), show mGR M i = _ from if_pos ⟨by omega, c_67⟩, ← Int.add_assoc]; exact hs8) (by omega) hP hD hS (lv_sub hl [0, 1] rfl)
        exact L42 _ 0 s2 g1_2 g2_2 g3_2 g4_2 g5_2 p2_2 _ _ ls (by omega) (by rw [su_i]; exact hs0) (n_lt _) hP hD hS (lv_sub hl [0, 1] rfl)
      · refine lv_aload_n hx hb d_Mo_gap_10 rfl (lv_at hl 1 rfl) ?_
        refine lv_iload_n hx hb d_Mo_gap_11 rfl (lv_at hl 0 rfl) ?_
        refine x_callV0F S (c_Mo_reduced l D aC b M hM er p2' h e1 e2 e3 e4 e5 t (by omega)) t_Mo_187 (rm_ok (by decide) (by decide)) hK hN hP hD hS [0, 1, 2, 3, 4, 5, 6] [8, 9, 10, 15, 16, 17, 18] rfl (by decide +kernel) (fun w9 hw => by obtain ⟨s9, g1_9, g2_9, g3_9, g4_9, g5_9, p2_9, rfl, hs9⟩ := hw; exact ⟨rfl, Nat.le_of_ble_eq_true rfl⟩) 6 6 rfl rfl rfl hl.1 rfl (Nat.le_of_ble_eq_true rfl) d_Mo_gap_12 ⟨Nat.zero_le _, Nat.zero_le _⟩ (fun w1 ws1 H locs e9 hw hP hD hS => ?_)
        obtain ⟨s9, g1_9, g2_9, g3_9, g4_9, g5_9, p2_9, rfl, hs9⟩ := hw
        have e9 : ws1 = [(b 16, eI aC 440 s9), (b 18, eI aC 1200 g1_9), (b 19, eI aC 1200 g2_9), (b 20, eI aC 1200 g3_9), (b 21, eI aC 1200 g4_9), (b 22, eI aC 1200 g5_9), (b 0, .inr (6, [.int (iI er), .int (iI M.rw), .int (iI M.cn), .int (iI M.en), .int (iI M.pr), .double (dM M.ko (-3)), .ref (b 1), .ref (b 2), .ref (b 3), .ref (b 4), .ref (b 5), .ref (b 6), .ref (b 7), .ref (b 8), .ref (b 9), .ref (b 10), .ref (b 11), .ref (b 12), .ref (b 13), .ref (b 14), .ref (b 15), .int (iI p2_9), .ref (b 16), .ref (b 17), .ref (b 18), .ref (b 19), .ref (b 20), .ref (b 21), .ref (b 22)])), (b 17, eI aC 440 y), (b 1, eD aC 192 (dA M.ka c3)), (b 2, eD aC 16 (dA M.kc c3)), (b 3, eD aC 256 (dA M.kq c3)), (b 4, eD aC 16 (dA M.kl c3)), (b 5, eD aC 16 (dA M.kh c3)), (b 6, eD aC 12 (dA M.krl c3)), (b 7, eD aC 12 (dA M.krh c3)), (b 8, eD aC 16 (dA M.kx M.xb)), (b 9, eD aC 12 (dA M.ky M.yb)), (b 10, eZ aC 192 M.ai), (b 11, eZ aC 256 M.qi), (b 12, eZ aC 16 M.li), (b 13, eZ aC 16 M.hi), (b 14, eZ aC 12 M.rli), (b 15, eZ aC 12 M.rhi)] := e9
        subst e9
        refine lv_aload_n hx hb d_Mo_gap_15 rfl (lv_at hl 1 rfl) ?_
        refine va_get (D := D) (ci := 6) (v := .ref (b 17)) (C := R_Mo) (T := F_Mo) (N := 29) hx hb hts i_Mo hown hK hP 6 rfl rfl 23 (by decide) (hts _ wf_Mo_60) (fun _ h9 => h9) rfl d_Mo_gap_16 ?_
        refine lv_iload_n hx hb d_Mo_gap_19 rfl (lv_at hl 0 rfl) ?_
        refine lv_aload_n hx hb d_Mo_gap_20 rfl (lv_at hl 1 rfl) ?_
        have hsg := sgI_q (mR M t)
        refine y_callV1 (V := .int (iI (sgI (0 + U3 0 (M.kc t) (-3) 1 0 1 0 0 + su (mQ M t) M.cn.toNat + su (mY M t) M.rw.toNat)))) S (c_Mo_signOfSum l D aC b M er p2_9 s9 (0 + U3 0 (M.kc t) (-3) 1 0 1 0 0 + su (mQ M t) M.cn.toNat + su (mY M t) M.rw.toNat) hs9 ((B_R hM (j := t) (by omega)).big (by decide))) t_Mo_152 (rm_ok (by decide) (by decide)) hK hN hP [0, 6] rfl 1 6 rfl rfl rfl hl.1 rfl (Nat.le_of_ble_eq_true rfl) d_Mo_gap_21 ⟨Nat.zero_le _, Nat.zero_le _⟩ ?_
        refine x_iast hx hb hK hP hD hS 7 rfl (by omega) (by decide) d_Mo_gap_24 (fun H locs hP hD hS => ?_)
        have hP : va_P D CL [(b 16, eI aC 440 s9), (b 18, eI aC 1200 g1_9), (b 19, eI aC 1200 g2_9), (b 20, eI aC 1200 g3_9), (b 21, eI aC 1200 g4_9), (b 22, eI aC 1200 g5_9), (b 0, .inr (6, [.int (iI er), .int (iI M.rw), .int (iI M.cn), .int (iI M.en), .int (iI M.pr), .double (dM M.ko (-3)), .ref (b 1), .ref (b 2), .ref (b 3), .ref (b 4), .ref (b 5), .ref (b 6), .ref (b 7), .ref (b 8), .ref (b 9), .ref (b 10), .ref (b 11), .ref (b 12), .ref (b 13), .ref (b 14), .ref (b 15), .int (iI p2_9), .ref (b 16), .ref (b 17), .ref (b 18), .ref (b 19), .ref (b 20), .ref (b 21), .ref (b 22)])), (b 17, eI aC 440 (updI y t (sgI (0 + U3 0 (M.kc t) (-3) 1 0 1 0 0 + su (mQ M t) M.cn.toNat + su (mY M t) M.rw.toNat)))), (b 1, eD aC 192 (dA M.ka c3)), (b 2, eD aC 16 (dA M.kc c3)), (b 3, eD aC 256 (dA M.kq c3)), (b 4, eD aC 16 (dA M.kl c3)), (b 5, eD aC 16 (dA M.kh c3)), (b 6, eD aC 12 (dA M.krl c3)), (b 7, eD aC 12 (dA M.krh c3)), (b 8, eD aC 16 (dA M.kx M.xb)), (b 9, eD aC 12 (dA M.ky M.yb)), (b 10, eZ aC 192 M.ai), (b 11, eZ aC 256 M.qi), (b 12, eZ aC 16 M.li), (b 13, eZ aC 16 M.hi), (b 14, eZ aC 12 M.rli), (b 15, eZ aC 12 M.rhi)] H := hP
        have hD : va_D (aW [(b 16, eI aC 440 f), (b 18, eI aC 1200 f1), (b 19, eI aC 1200 f2), (b 20, eI aC 1200 f3), (b 21, eI aC 1200 f4), (b 22, eI aC 1200 f5), (b 0, .inr (6, [.int (iI er), .int (iI M.rw), .int (iI M.cn), .int (iI M.en), .int (iI M.pr), .double (dM M.ko (-3)), .ref (b 1), .ref (b 2), .ref (b 3), .ref (b 4), .ref (b 5), .ref (b 6), .ref (b 7), .ref (b 8), .ref (b 9), .ref (b 10), .ref (b 11), .ref (b 12), .ref (b 13), .ref (b 14), .ref (b 15), .int (iI p2), .ref (b 16), .ref (b 17), .ref (b 18), .ref (b 19), .ref (b 20), .ref (b 21), .ref (b 22)])), (b 17, eI aC 440 z), (b 1, eD aC 192 (dA M.ka c3)), (b 2, eD aC 16 (dA M.kc c3)), (b 3, eD aC 256 (dA M.kq c3)), (b 4, eD aC 16 (dA M.kl c3)), (b 5, eD aC 16 (dA M.kh c3)), (b 6, eD aC 12 (dA M.krl c3)), (b 7, eD aC 12 (dA M.krh c3)), (b 8, eD aC 16 (dA M.kx M.xb)), (b 9, eD aC 12 (dA M.ky M.yb)), (b 10, eZ aC 192 M.ai), (b 11, eZ aC 256 M.qi), (b 12, eZ aC 16 M.li), (b 13, eZ aC 16 M.hi), (b 14, eZ aC 12 M.rli), (b 15, eZ aC 12 M.rhi)]) [(b 16, eI aC 440 s9), (b 18, eI aC 1200 g1_9), (b 19, eI aC 1200 g2_9), (b 20, eI aC 1200 g3_9), (b 21, eI aC 1200 g4_9), (b 22, eI aC 1200 g5_9), (b 0, .inr (6, [.int (iI er), .int (iI M.rw), .int (iI M.cn), .int (iI M.en), .int (iI M.pr), .double (dM M.ko (-3)), .ref (b 1), .ref (b 2), .ref (b 3), .ref (b 4), .ref (b 5), .ref (b 6), .ref (b 7), .ref (b 8), .ref (b 9), .ref (b 10), .ref (b 11), .ref (b 12), .ref (b 13), .ref (b 14), .ref (b 15), .int (iI p2_9), .ref (b 16), .ref (b 17), .ref (b 18), .ref (b 19), .ref (b 20), .ref (b 21), .ref (b 22)])), (b 17, eI aC 440 (updI y t (sgI (0 + U3 0 (M.kc t) (-3) 1 0 1 0 0 + su (mQ M t) M.cn.toNat + su (mY M t) M.rw.toNat)))), (b 1, eD aC 192 (dA M.ka c3)), (b 2, eD aC 16 (dA M.kc c3)), (b 3, eD aC 256 (dA M.kq c3)), (b 4, eD aC 16 (dA M.kl c3)), (b 5, eD aC 16 (dA M.kh c3)), (b 6, eD aC 12 (dA M.krl c3)), (b 7, eD aC 12 (dA M.krh c3)), (b 8, eD aC 16 (dA M.kx M.xb)), (b 9, eD aC 12 (dA M.ky M.yb)), (b 10, eZ aC 192 M.ai), (b 11, eZ aC 256 M.qi), (b 12, eZ aC 16 M.li), (b 13, eZ aC 16 M.hi), (b 14, eZ aC 12 M.rli), (b 15, eZ aC 12 M.rhi)] := hD
        refine lv_iinc (v := iI (t + 1)) (lv' := [(1, .int (iI (t + 1))), (0, .ref (b 0))]) hx hb d_Mo_gap_25 hl (k := 0) rfl (iI_add _ _) (by decide) rfl (fun ls hl => ?_)
        refine lv_goto (tgt := 2) hx hb d_Mo_gap_28 (by decide) ?_
        exact ih (t + 1) s9 g1_9 g2_9 g3_9 g4_9 g5_9 p2_9 (updI y t (sgI (0 + U3 0 (M.kc t) (-3) 1 0 1 0 0 + su (mQ M t) M.cn.toNat + su (mY M t) M.rw.toNat))) _ _ ls (by omega) (fun j h1 h2 => by
          by_cases hj : j = t
          · rw [hj]; exact updI_s _ _ _
          · rw [updI_n hj]; exact hz j h1 (by omega)) (by omega) hP hD hS (lv_sub hl [0, 1] rfl)
  exact L2 _ 0 f f1 f2 f3 f4 f5 p2 z _ _ ls (by omega) (fun j h1 h2 => by omega) (n_lt _) hP hD hS (lv_sub hl [0, 1] rfl)
