theorem tm_res {g : Int → Int} {N : Nat} {P : Int} (hn : nrm 16 g N) (hd : dg 16 g N = P) : (∀ j : Int, 0 ≤ j → j < ll P → 0 ≤ g j ∧ g j < 65536) ∧ dg 16 g (ll P).toNat = P ∧ 0 ≤ ll P ∧ ll P ≤ (N : Int) := by
  have h1 := trm_ll hn
  have h2 := trm_le (f := g) N
  have h3 := trm_dg (b := 16) (f := g) N
  rw [hd] at h1 h3
  rw [← h1]
  refine ⟨fun j a b => by have := hn j a (by omega); rw [p16] at this; exact this, ?_, by omega, by omega⟩
  rw [show ((trm g N : Nat) : Int).toNat = trm g N by omega]; exact h3
theorem ex4_r (k : Int) : 0 ≤ ex4 k ∧ ex4 k ≤ 4 := by unfold ex4; split <;> omega
theorem ll_z {P : Int} : ll P = 0 ↔ P = 0 := by
  unfold ll
  split
  · omega
  · rename_i h
    have : -1 ≤ tp P := by unfold tp; split <;> omega
    rcases (show tp P = -1 ∨ 0 ≤ tp P by omega) with q | q
    · unfold tp at q; rw [if_neg h] at q; omega
    · omega
/-- a limb, or 0 above the last -/
def lm (g : Int → Int) (L j : Int) : Int := if j < L then g j else 0
theorem lm_dg {g : Int → Int} {L : Int} (hL : 0 ≤ L) : ∀ n : Nat, L ≤ (n : Int) → dg 16 (lm g L) n = dg 16 g L.toNat
  | 0, h => by rw [show L.toNat = 0 by omega]; rfl
  | n + 1, h => by
    show dg 16 (lm g L) n + lm g L (n : Int) * 2 ^ (16 * n) = _
    rcases (show L ≤ (n : Int) ∨ L = ((n + 1 : Nat) : Int) by omega) with q | q
    · rw [lm_dg hL n q, show lm g L (n : Int) = 0 from if_neg (by omega), Int.zero_mul, Int.add_zero]
    · rw [show L.toNat = n + 1 by omega]
      show _ = dg 16 g n + g (n : Int) * 2 ^ (16 * n)
      rw [show lm g L (n : Int) = g n from if_pos (by omega), dg_congr (f := lm g L) (g := g) n (fun j h1 h2 => if_pos (by omega))]
theorem ad_step {f h g : Int → Int} {t z L mi cy S y : Int} (hz : 0 ≤ z ∧ z ≤ t) (hmi : mi = 0 ∨ mi = 1) (hh : h t = f t) (hy : y = mi * 65535 + (1 - 2 * mi) * lm g L (t - z)) (hS : cy + (h t + y) = S)
    (e : dg 16 h t.toNat + cy * 2 ^ (16 * t.toNat) = dg 16 f t.toNat + (1 - 2 * mi) * (2 ^ (16 * z.toNat) * dg 16 (lm g L) (t - z).toNat) + mi * 2 ^ (16 * t.toNat)) :
    dg 16 (updI h t (S % 65536)) (t + 1).toNat + S / 65536 * 2 ^ (16 * (t + 1).toNat) = dg 16 f (t + 1).toNat + (1 - 2 * mi) * (2 ^ (16 * z.toNat) * dg 16 (lm g L) (t + 1 - z).toNat) + mi * 2 ^ (16 * (t + 1).toNat) := by
  rw [show (t + 1).toNat = t.toNat + 1 by omega, show (t + 1 - z).toNat = (t - z).toNat + 1 by omega]
  show dg 16 (updI h t (S % 65536)) t.toNat + updI h t (S % 65536) (t.toNat : Int) * 2 ^ (16 * t.toNat) + _ = dg 16 f t.toNat + f (t.toNat : Int) * 2 ^ (16 * t.toNat) + (1 - 2 * mi) * (2 ^ (16 * z.toNat) * (dg 16 (lm g L) (t - z).toNat + lm g L ((t - z).toNat : Int) * 2 ^ (16 * (t - z).toNat))) + mi * _
  rw [show ((t.toNat : Nat) : Int) = t by omega, show (((t - z).toNat : Nat) : Int) = t - z by omega, dg_out (by omega), updI_s, ← hh, show 16 * (t.toNat + 1) = 16 * t.toNat + 16 by omega, p2_add, p16]
  have e1 : (2 : Int) ^ (16 * z.toNat) * (lm g L (t - z) * 2 ^ (16 * (t - z).toNat)) = lm g L (t - z) * 2 ^ (16 * t.toNat) := by
    rw [Int.mul_left_comm, ← p2_add, show 16 * z.toNat + 16 * (t - z).toNat = 16 * t.toNat by omega]
  rw [Int.mul_add (2 ^ (16 * z.toNat)), e1]
  generalize (2 : Int) ^ (16 * z.toNat) * dg 16 (lm g L) (t - z).toNat = Y at *
  generalize (2 : Int) ^ (16 * t.toNat) = w at *
  generalize lm g L (t - z) = x at *
  have e2 : S % 65536 * w + S / 65536 * (w * 65536) = S * w := by
    have := emod_add_div S 65536
    rw [← Int.mul_assoc, Int.mul_comm (S / 65536) w, Int.mul_comm (S % 65536) w, Int.mul_assoc, ← Int.mul_add, Int.mul_comm (S / 65536) 65536, this, Int.mul_comm]
  have e3 : S * w = cy * w + (h t * w + y * w) := by rw [← hS, Int.add_mul, Int.add_mul]
  rcases hmi with rfl | rfl
  · have e4 : y = x := by omega
    rw [e4] at e3
    omega
  · have e4 : y * w = 65535 * w - x * w := by rw [hy, ← Int.sub_mul]; congr 1; omega
    rw [e4] at e3
    omega
theorem ad_end {f h g : Int → Int} {z L mi cy V X : Int} (hz : 0 ≤ z ∧ z ≤ 400) (hL : 0 ≤ L ∧ L ≤ 40) (hX : dg 16 g L.toNat = X) (hr : ∀ j : Int, 0 ≤ j → j < 440 → 0 ≤ h j ∧ h j < 65536) (hf : SumOk f V)
    (e : dg 16 h 440 + cy * 2 ^ (16 * 440) = dg 16 f 440 + (1 - 2 * mi) * (2 ^ (16 * z.toNat) * dg 16 (lm g L) (440 - z).toNat) + mi * 2 ^ (16 * 440)) : SumOk h (V + (1 - 2 * mi) * (X * 2 ^ (16 * z.toNat))) := by
  rw [lm_dg hL.1 _ (by omega), hX, bigM_16] at e
  have hn : nrm 16 h 440 := fun j a b => by rw [p16]; exact hr j a b
  refine ⟨hn, ?_⟩
  obtain ⟨r1, r2⟩ := dg_range 440 hn
  rw [bigM_16] at r2
  have hV := hf.2
  have d := emod_add_div V bigM
  rw [Int.mul_comm X]
  generalize (1 - 2 * mi) * (2 ^ (16 * z.toNat) * X) = Y at *
  have e5 : V + Y = dg 16 h 440 + bigM * (V / bigM + cy - mi) := by
    rw [Int.mul_sub, Int.mul_add, Int.mul_comm bigM cy, Int.mul_comm bigM mi]
    omega
  rw [e5, Int.add_mul_emod_self_left, Int.emod_eq_of_lt r1 r2]

theorem ad_z {g1 g2 g3 g4 : Int → Int} {k1 k2 k3 : Int} (hs : k1 = 0 ∨ k2 = 0 ∨ k3 = 0) (h4 : dg 16 g4 (ll (dg 16 g1 (ex4 k1).toNat * dg 16 g2 (ex4 k2).toNat)).toNat = dg 16 g1 (ex4 k1).toNat * dg 16 g2 (ex4 k2).toNat) (h1 : dg 16 g1 (ex4 k1).toNat = (k1.natAbs : Int) * 2 ^ nt k1) (h2 : dg 16 g2 (ex4 k2).toNat = (k2.natAbs : Int) * 2 ^ nt k2) (h3 : dg 16 g3 (ex4 k3).toNat = (k3.natAbs : Int) * 2 ^ nt k3) : dg 16 g4 (ll (dg 16 g1 (ex4 k1).toNat * dg 16 g2 (ex4 k2).toNat)).toNat * dg 16 g3 (ex4 k3).toNat = 0 := by
  rw [h4, h1, h2, h3]
  rcases hs with rfl | rfl | rfl
  · rw [show ((0 : Int).natAbs : Int) = 0 from rfl, Int.zero_mul, Int.zero_mul, Int.zero_mul]
  · rw [show ((0 : Int).natAbs : Int) = 0 from rfl, Int.zero_mul, Int.mul_zero, Int.zero_mul]
  · rw [show ((0 : Int).natAbs : Int) = 0 from rfl, Int.zero_mul, Int.mul_zero]
set_option maxHeartbeats 4000000 in
set_option maxRecDepth 100000 in
theorem c_Mo_add_z (l : Launch) (D : va_G) (aC : Nat → ClassId) (b : Nat → Nat) (M : MS) (er p2 : Int) (f f1 f2 f3 f4 f5 : Int → Int) (k1 q1 k2 q2 k3 q3 by_ ls_ V : Int) (hk1 : -4294967296 < k1 ∧ k1 < 4294967296) (hk2 : -4294967296 < k2 ∧ k2 < 4294967296) (hk3 : -4294967296 < k3 ∧ k3 < 4294967296) (hq1 : -700 ≤ q1 ∧ q1 ≤ 700) (hq2 : -700 ≤ q2 ∧ q2 ≤ 700) (hq3 : -700 ≤ q3 ∧ q3 ≤ 700) (hby : -10 ≤ by_ ∧ by_ ≤ 10) (hls : ls_ = 0 ∨ ls_ = 1) (hf : SumOk f V) (hs : k1 = 0 ∨ k2 = 0 ∨ k3 = 0) : CT l D aC y_Mo_add (rd 2 60) [.ref (b 0), .double (dM k1 q1), .double (dM k2 q2), .double (dM k3 q3), .int (iI by_), .int (iI ls_)] [(b 16, eI aC 440 f), (b 18, eI aC 1200 f1), (b 19, eI aC 1200 f2), (b 20, eI aC 1200 f3), (b 21, eI aC 1200 f4), (b 22, eI aC 1200 f5), (b 0, .inr (6, [.int (iI er), .int (iI M.rw), .int (iI M.cn), .int (iI M.en), .int (iI M.pr), .double (dM M.ko (-3)), .ref (b 1), .ref (b 2), .ref (b 3), .ref (b 4), .ref (b 5), .ref (b 6), .ref (b 7), .ref (b 8), .ref (b 9), .ref (b 10), .ref (b 11), .ref (b 12), .ref (b 13), .ref (b 14), .ref (b 15), .int (iI p2), .ref (b 16), .ref (b 17), .ref (b 18), .ref (b 19), .ref (b 20), .ref (b 21), .ref (b 22)]))] (fun v w => v = none ∧ ∃ (h g1 g2 g3 g4 g5 : Int → Int) (p2' : Int), w = [(b 16, eI aC 440 h), (b 18, eI aC 1200 g1), (b 19, eI aC 1200 g2), (b 20, eI aC 1200 g3), (b 21, eI aC 1200 g4), (b 22, eI aC 1200 g5), (b 0, .inr (6, [.int (iI er), .int (iI M.rw), .int (iI M.cn), .int (iI M.en), .int (iI M.pr), .double (dM M.ko (-3)), .ref (b 1), .ref (b 2), .ref (b 3), .ref (b 4), .ref (b 5), .ref (b 6), .ref (b 7), .ref (b 8), .ref (b 9), .ref (b 10), .ref (b 11), .ref (b 12), .ref (b 13), .ref (b 14), .ref (b 15), .int (iI p2'), .ref (b 16), .ref (b 17), .ref (b 18), .ref (b 19), .ref (b 20), .ref (b 21), .ref (b 22)]))] ∧ SumOk h (V)) := by
  refine CT.of (cc := b_Mo_add) (maxL := 18) (ret := none) (by decide +kernel) k_Mo_add (Nat.le_of_ble_eq_true rfl) ?_
  intro p e s m below meth c Q S hr hlocks hQ hK hN hP hD hS ls hl
  obtain ⟨hx, hb, hml, hown, hts⟩ := id S
  have hl : lv_has ls 18 [(0, .ref (b 0)), (1, .double (dM k1 q1)), (3, .double (dM k2 q2)), (5, .double (dM k3 q3)), (7, .int (iI by_)), (8, .int (iI ls_))] := hl
  have K11 : ∀ ls : Array Slot, lv_has ls 18 [(0, .ref (b 0)), (1, .double (dM k1 q1)), (3, .double (dM k2 q2)), (5, .double (dM k3 q3)), (7, .int (iI by_)), (8, .int (iI ls_))] → W p l e (rd 2 60) s m ([.ref (b 0), .double (dM k1 q1), .double (dM k2 q2), .double (dM k3 q3), .int (iI by_), .int (iI ls_)]).toArray below meth c s.heap [] 0 0 Q (F0 m 11 ls [.int (iI (zP (k1 < 0)))]) := by
    intro ls hl
    have K22 : ∀ ls : Array Slot, lv_has ls 18 [(0, .ref (b 0)), (1, .double (dM k1 q1)), (3, .double (dM k2 q2)), (5, .double (dM k3 q3)), (7, .int (iI by_)), (8, .int (iI ls_))] → W p l e (rd 2 60) s m ([.ref (b 0), .double (dM k1 q1), .double (dM k2 q2), .double (dM k3 q3), .int (iI by_), .int (iI ls_)]).toArray below meth c s.heap [] 0 0 Q (F0 m 22 ls [.int (iI (zP (k2 < 0))), .int (iI (zP (k1 < 0)))]) := by
      intro ls hl
      have K30 : ∀ ls : Array Slot, lv_has ls 18 [(0, .ref (b 0)), (1, .double (dM k1 q1)), (3, .double (dM k2 q2)), (5, .double (dM k3 q3)), (7, .int (iI by_)), (8, .int (iI ls_))] → W p l e (rd 2 60) s m ([.ref (b 0), .double (dM k1 q1), .double (dM k2 q2), .double (dM k3 q3), .int (iI by_), .int (iI ls_)]).toArray below meth c s.heap [] 0 0 Q (F0 m 30 ls [.int (iI (zP (zP (k1 < 0) ≠ zP (k2 < 0))))]) := by
        intro ls hl
        have K42 : ∀ ls : Array Slot, lv_has ls 18 [(0, .ref (b 0)), (1, .double (dM k1 q1)), (3, .double (dM k2 q2)), (5, .double (dM k3 q3)), (7, .int (iI by_)), (8, .int (iI ls_))] → W p l e (rd 2 60) s m ([.ref (b 0), .double (dM k1 q1), .double (dM k2 q2), .double (dM k3 q3), .int (iI by_), .int (iI ls_)]).toArray below meth c s.heap [] 0 0 Q (F0 m 42 ls [.int (iI (zP (k3 < 0))), .int (iI (zP (zP (k1 < 0) ≠ zP (k2 < 0))))]) := by
          intro ls hl
          have K50 : ∀ ls : Array Slot, lv_has ls 18 [(0, .ref (b 0)), (1, .double (dM k1 q1)), (3, .double (dM k2 q2)), (5, .double (dM k3 q3)), (7, .int (iI by_)), (8, .int (iI ls_))] → W p l e (rd 2 60) s m ([.ref (b 0), .double (dM k1 q1), .double (dM k2 q2), .double (dM k3 q3), .int (iI by_), .int (iI ls_)]).toArray below meth c s.heap [] 0 0 Q (F0 m 50 ls [.int (iI (zP (zP (zP (k1 < 0) ≠ zP (k2 < 0)) ≠ zP (k3 < 0))))]) := by
            intro ls hl
            have K60 : ∀ ls : Array Slot, lv_has ls 18 [(0, .ref (b 0)), (1, .double (dM k1 q1)), (3, .double (dM k2 q2)), (5, .double (dM k3 q3)), (7, .int (iI by_)), (8, .int (iI ls_))] → W p l e (rd 2 60) s m ([.ref (b 0), .double (dM k1 q1), .double (dM k2 q2), .double (dM k3 q3), .int (iI by_), .int (iI ls_)]).toArray below meth c s.heap [] 0 0 Q (F0 m 60 ls [.int (iI (zP (zP (zP (zP (k1 < 0) ≠ zP (k2 < 0)) ≠ zP (k3 < 0)) ≠ ls_)))]) := by
              intro ls hl
              obtain ⟨mi, hmi⟩ : ∃ z : Int, zP (zP (zP (zP (k1 < 0) ≠ zP (k2 < 0)) ≠ zP (k3 < 0)) ≠ ls_) = z := ⟨_, rfl⟩
              refine x_top _ mi hmi ?_
              have hmi1 := zP_01 (zP (zP (zP (k1 < 0) ≠ zP (k2 < 0)) ≠ zP (k3 < 0)) ≠ ls_)
              rw [hmi] at hmi1
              have hmi1 : mi = 0 ∨ mi = 1 := by omega
              refine lv_istore (lv' := [(9, .int (iI mi)), (0, .ref (b 0)), (1, .double (dM k1 q1)), (3, .double (dM k2 q2)), (5, .double (dM k3 q3)), (7, .int (iI by_)), (8, .int (iI ls_))]) hx hb d_Mo_add_60 hl (by decide) rfl (fun ls hl => ?_)
              refine lv_aload_n hx hb d_Mo_add_62 rfl (lv_at hl 1 rfl) ?_
              refine lv_dload_n hx hb d_Mo_add_63 rfl (lv_at hl 2 rfl) ?_
              refine lv_aload_n hx hb d_Mo_add_64 rfl (lv_at hl 1 rfl) ?_
              refine va_get (D := D) (ci := 6) (v := .ref (b 18)) (C := R_Mo) (T := F_Mo) (N := 29) hx hb hts i_Mo hown hK hP 6 rfl rfl 24 (by decide) (hts _ wf_Mo_63) (fun _ h9 => h9) rfl d_Mo_add_65 ?_
              refine x_callV1F (V := .int (iI (ex4 k1))) S (c_Mo_exact l D aC b M er p2 (b 18) f1 k1 q1 (by omega) (by omega)) t_Mo_139 (rm_ok (by decide) (by decide)) hK hN hP hD hS [1, 6] [] rfl rfl (fun w9 hw => by obtain ⟨ge1, rfl, hed1, her1⟩ := hw; exact ⟨rfl, Nat.le_of_ble_eq_true rfl⟩) 1 6 rfl rfl rfl hl.1 rfl (Nat.le_of_ble_eq_true rfl) d_Mo_add_68 ⟨Nat.zero_le _, Nat.zero_le _⟩ (fun w1 ws1 H locs e9 hw hP hD hS => ?_)
              obtain ⟨ge1, rfl, hed1, her1⟩ := hw
              have e9 : ws1 = [(b 16, eI aC 440 f), (b 18, eI aC 1200 ge1), (b 19, eI aC 1200 f2), (b 20, eI aC 1200 f3), (b 21, eI aC 1200 f4), (b 22, eI aC 1200 f5), (b 0, .inr (6, [.int (iI er), .int (iI M.rw), .int (iI M.cn), .int (iI M.en), .int (iI M.pr), .double (dM M.ko (-3)), .ref (b 1), .ref (b 2), .ref (b 3), .ref (b 4), .ref (b 5), .ref (b 6), .ref (b 7), .ref (b 8), .ref (b 9), .ref (b 10), .ref (b 11), .ref (b 12), .ref (b 13), .ref (b 14), .ref (b 15), .int (iI (if k1 = 0 then 0 else q1 - nt k1)), .ref (b 16), .ref (b 17), .ref (b 18), .ref (b 19), .ref (b 20), .ref (b 21), .ref (b 22)]))] := e9
              subst e9
              have hx4_1 := ex4_r k1
              refine lv_istore (lv' := [(10, .int (iI (ex4 k1))), (9, .int (iI mi)), (0, .ref (b 0)), (1, .double (dM k1 q1)), (3, .double (dM k2 q2)), (5, .double (dM k3 q3)), (7, .int (iI by_)), (8, .int (iI ls_))]) hx hb d_Mo_add_71 hl (by decide) rfl (fun ls hl => ?_)
              refine lv_aload_n hx hb d_Mo_add_73 rfl (lv_at hl 2 rfl) ?_
              refine va_get (D := D) (ci := 6) (v := .int (iI (if k1 = 0 then 0 else q1 - nt k1))) (C := R_Mo) (T := F_Mo) (N := 29) hx hb hts i_Mo hown hK hP 6 rfl rfl 21 (by decide) (hts _ wf_Mo_89) (fun _ h9 => h9) rfl d_Mo_add_74 ?_
              refine lv_istore (lv' := [(11, .int (iI (if k1 = 0 then 0 else q1 - nt k1))), (10, .int (iI (ex4 k1))), (9, .int (iI mi)), (0, .ref (b 0)), (1, .double (dM k1 q1)), (3, .double (dM k2 q2)), (5, .double (dM k3 q3)), (7, .int (iI by_)), (8, .int (iI ls_))]) hx hb d_Mo_add_77 hl (by decide) rfl (fun ls hl => ?_)
              refine lv_aload_n hx hb d_Mo_add_79 rfl (lv_at hl 3 rfl) ?_
              refine lv_dload_n hx hb d_Mo_add_80 rfl (lv_at hl 5 rfl) ?_
              refine lv_aload_n hx hb d_Mo_add_81 rfl (lv_at hl 3 rfl) ?_
              refine va_get (D := D) (ci := 6) (v := .ref (b 19)) (C := R_Mo) (T := F_Mo) (N := 29) hx hb hts i_Mo hown hK hP 6 rfl rfl 25 (by decide) (hts _ wf_Mo_66) (fun _ h9 => h9) rfl d_Mo_add_82 ?_
              refine x_callV1F (V := .int (iI (ex4 k2))) S (c_Mo_exact l D aC b M er (if k1 = 0 then 0 else q1 - nt k1) (b 19) f2 k2 q2 (by omega) (by omega)) t_Mo_139 (rm_ok (by decide) (by decide)) hK hN hP hD hS [2, 6] [] rfl rfl (fun w9 hw => by obtain ⟨ge2, rfl, hed2, her2⟩ := hw; exact ⟨rfl, Nat.le_of_ble_eq_true rfl⟩) 1 6 rfl rfl rfl hl.1 rfl (Nat.le_of_ble_eq_true rfl) d_Mo_add_85 ⟨Nat.zero_le _, Nat.zero_le _⟩ (fun w1 ws1 H locs e9 hw hP hD hS => ?_)
              obtain ⟨ge2, rfl, hed2, her2⟩ := hw
              have e9 : ws1 = [(b 16, eI aC 440 f), (b 18, eI aC 1200 ge1), (b 19, eI aC 1200 ge2), (b 20, eI aC 1200 f3), (b 21, eI aC 1200 f4), (b 22, eI aC 1200 f5), (b 0, .inr (6, [.int (iI er), .int (iI M.rw), .int (iI M.cn), .int (iI M.en), .int (iI M.pr), .double (dM M.ko (-3)), .ref (b 1), .ref (b 2), .ref (b 3), .ref (b 4), .ref (b 5), .ref (b 6), .ref (b 7), .ref (b 8), .ref (b 9), .ref (b 10), .ref (b 11), .ref (b 12), .ref (b 13), .ref (b 14), .ref (b 15), .int (iI (if k2 = 0 then 0 else q2 - nt k2)), .ref (b 16), .ref (b 17), .ref (b 18), .ref (b 19), .ref (b 20), .ref (b 21), .ref (b 22)]))] := e9
              subst e9
              have hx4_2 := ex4_r k2
              refine lv_istore (lv' := [(12, .int (iI (ex4 k2))), (11, .int (iI (if k1 = 0 then 0 else q1 - nt k1))), (10, .int (iI (ex4 k1))), (9, .int (iI mi)), (0, .ref (b 0)), (1, .double (dM k1 q1)), (3, .double (dM k2 q2)), (5, .double (dM k3 q3)), (7, .int (iI by_)), (8, .int (iI ls_))]) hx hb d_Mo_add_88 hl (by decide) rfl (fun ls hl => ?_)
              refine lv_iload hx hb d_Mo_add_90 (lv_at hl 1 rfl) ?_
              refine lv_aload_n hx hb d_Mo_add_92 rfl (lv_at hl 4 rfl) ?_
              refine va_get (D := D) (ci := 6) (v := .int (iI (if k2 = 0 then 0 else q2 - nt k2))) (C := R_Mo) (T := F_Mo) (N := 29) hx hb hts i_Mo hown hK hP 6 rfl rfl 21 (by decide) (hts _ wf_Mo_89) (fun _ h9 => h9) rfl d_Mo_add_93 ?_
              refine x_iadd hx hb d_Mo_add_96 ?_
              refine lv_istore (lv' := [(11, .int (iI ((if k1 = 0 then 0 else q1 - nt k1) + (if k2 = 0 then 0 else q2 - nt k2)))), (12, .int (iI (ex4 k2))), (10, .int (iI (ex4 k1))), (9, .int (iI mi)), (0, .ref (b 0)), (1, .double (dM k1 q1)), (3, .double (dM k2 q2)), (5, .double (dM k3 q3)), (7, .int (iI by_)), (8, .int (iI ls_))]) hx hb d_Mo_add_97 hl (by decide) rfl (fun ls hl => ?_)
              refine lv_aload_n hx hb d_Mo_add_99 rfl (lv_at hl 4 rfl) ?_
              refine lv_dload hx hb d_Mo_add_100 (lv_at hl 7 rfl) ?_
              refine lv_aload_n hx hb d_Mo_add_102 rfl (lv_at hl 4 rfl) ?_
              refine va_get (D := D) (ci := 6) (v := .ref (b 20)) (C := R_Mo) (T := F_Mo) (N := 29) hx hb hts i_Mo hown hK hP 6 rfl rfl 26 (by decide) (hts _ wf_Mo_69) (fun _ h9 => h9) rfl d_Mo_add_103 ?_
              refine x_callV1F (V := .int (iI (ex4 k3))) S (c_Mo_exact l D aC b M er (if k2 = 0 then 0 else q2 - nt k2) (b 20) f3 k3 q3 (by omega) (by omega)) t_Mo_139 (rm_ok (by decide) (by decide)) hK hN hP hD hS [3, 6] [] rfl rfl (fun w9 hw => by obtain ⟨ge3, rfl, hed3, her3⟩ := hw; exact ⟨rfl, Nat.le_of_ble_eq_true rfl⟩) 1 6 rfl rfl rfl hl.1 rfl (Nat.le_of_ble_eq_true rfl) d_Mo_add_106 ⟨Nat.zero_le _, Nat.zero_le _⟩ (fun w1 ws1 H locs e9 hw hP hD hS => ?_)
              obtain ⟨ge3, rfl, hed3, her3⟩ := hw
              have e9 : ws1 = [(b 16, eI aC 440 f), (b 18, eI aC 1200 ge1), (b 19, eI aC 1200 ge2), (b 20, eI aC 1200 ge3), (b 21, eI aC 1200 f4), (b 22, eI aC 1200 f5), (b 0, .inr (6, [.int (iI er), .int (iI M.rw), .int (iI M.cn), .int (iI M.en), .int (iI M.pr), .double (dM M.ko (-3)), .ref (b 1), .ref (b 2), .ref (b 3), .ref (b 4), .ref (b 5), .ref (b 6), .ref (b 7), .ref (b 8), .ref (b 9), .ref (b 10), .ref (b 11), .ref (b 12), .ref (b 13), .ref (b 14), .ref (b 15), .int (iI (if k3 = 0 then 0 else q3 - nt k3)), .ref (b 16), .ref (b 17), .ref (b 18), .ref (b 19), .ref (b 20), .ref (b 21), .ref (b 22)]))] := e9
              subst e9
              have hx4_3 := ex4_r k3
              refine lv_istore (lv' := [(13, .int (iI (ex4 k3))), (11, .int (iI ((if k1 = 0 then 0 else q1 - nt k1) + (if k2 = 0 then 0 else q2 - nt k2)))), (12, .int (iI (ex4 k2))), (10, .int (iI (ex4 k1))), (9, .int (iI mi)), (0, .ref (b 0)), (1, .double (dM k1 q1)), (3, .double (dM k2 q2)), (5, .double (dM k3 q3)), (7, .int (iI by_)), (8, .int (iI ls_))]) hx hb d_Mo_add_109 hl (by decide) rfl (fun ls hl => ?_)
              refine lv_iload hx hb d_Mo_add_111 (lv_at hl 1 rfl) ?_
              refine lv_aload_n hx hb d_Mo_add_113 rfl (lv_at hl 5 rfl) ?_
              refine va_get (D := D) (ci := 6) (v := .int (iI (if k3 = 0 then 0 else q3 - nt k3))) (C := R_Mo) (T := F_Mo) (N := 29) hx hb hts i_Mo hown hK hP 6 rfl rfl 21 (by decide) (hts _ wf_Mo_89) (fun _ h9 => h9) rfl d_Mo_add_114 ?_
              refine lv_iload hx hb d_Mo_add_117 (lv_at hl 9 rfl) ?_
              refine x_iadd hx hb d_Mo_add_119 ?_
              refine lv_sipush (v := iI (-3400)) hx hb d_Mo_add_120 (by decide +kernel) ?_
              refine x_isub hx hb d_Mo_add_123 ?_
              refine x_iadd hx hb d_Mo_add_124 ?_
              refine lv_istore (lv' := [(11, .int (iI (((if k1 = 0 then 0 else q1 - nt k1) + (if k2 = 0 then 0 else q2 - nt k2)) + (((if k3 = 0 then 0 else q3 - nt k3) + by_) - (-3400))))), (13, .int (iI (ex4 k3))), (12, .int (iI (ex4 k2))), (10, .int (iI (ex4 k1))), (9, .int (iI mi)), (0, .ref (b 0)), (1, .double (dM k1 q1)), (3, .double (dM k2 q2)), (5, .double (dM k3 q3)), (7, .int (iI by_)), (8, .int (iI ls_))]) hx hb d_Mo_add_125 hl (by decide) rfl (fun ls hl => ?_)
              refine lv_aload_n hx hb d_Mo_add_127 rfl (lv_at hl 5 rfl) ?_
              refine va_get (D := D) (ci := 6) (v := .ref (b 18)) (C := R_Mo) (T := F_Mo) (N := 29) hx hb hts i_Mo hown hK hP 6 rfl rfl 24 (by decide) (hts _ wf_Mo_63) (fun _ h9 => h9) rfl d_Mo_add_128 ?_
              refine lv_iload hx hb d_Mo_add_131 (lv_at hl 3 rfl) ?_
              refine lv_aload_n hx hb d_Mo_add_133 rfl (lv_at hl 5 rfl) ?_
              refine va_get (D := D) (ci := 6) (v := .ref (b 19)) (C := R_Mo) (T := F_Mo) (N := 29) hx hb hts i_Mo hown hK hP 6 rfl rfl 25 (by decide) (hts _ wf_Mo_66) (fun _ h9 => h9) rfl d_Mo_add_134 ?_
              refine lv_iload hx hb d_Mo_add_137 (lv_at hl 2 rfl) ?_
              refine lv_aload_n hx hb d_Mo_add_139 rfl (lv_at hl 5 rfl) ?_
              refine va_get (D := D) (ci := 6) (v := .ref (b 21)) (C := R_Mo) (T := F_Mo) (N := 29) hx hb hts i_Mo hown hK hP 6 rfl rfl 27 (by decide) (hts _ wf_Mo_72) (fun _ h9 => h9) rfl d_Mo_add_140 ?_
              refine x_callS1F (V := .int (iI (ll (dg 16 ge1 (ex4 k1).toNat * dg 16 ge2 (ex4 k2).toNat)))) S (c_Mo_times l D aC (b 21) (b 18) (b 19) f4 ge1 ge2 (ex4 k1) (ex4 k2) (by omega) (by omega) her1 her2) t_Mo_143 (rm_ok (by decide) (by decide)) hK hN hP hD hS [4] [1, 2] rfl rfl (fun w9 hw => by obtain ⟨gt4, rfl, hnr4, hdg4⟩ := hw; exact ⟨rfl, Nat.le_of_ble_eq_true rfl⟩) rfl hl.1 rfl (Nat.le_of_ble_eq_true rfl) d_Mo_add_143 ⟨Nat.zero_le _, Nat.zero_le _⟩ (fun w1 ws1 H locs e9 hw hP hD hS => ?_)
              obtain ⟨gt4, rfl, hnr4, hdg4⟩ := hw
              have e9 : ws1 = [(b 16, eI aC 440 f), (b 18, eI aC 1200 ge1), (b 19, eI aC 1200 ge2), (b 20, eI aC 1200 ge3), (b 21, eI aC 1200 gt4), (b 22, eI aC 1200 f5), (b 0, .inr (6, [.int (iI er), .int (iI M.rw), .int (iI M.cn), .int (iI M.en), .int (iI M.pr), .double (dM M.ko (-3)), .ref (b 1), .ref (b 2), .ref (b 3), .ref (b 4), .ref (b 5), .ref (b 6), .ref (b 7), .ref (b 8), .ref (b 9), .ref (b 10), .ref (b 11), .ref (b 12), .ref (b 13), .ref (b 14), .ref (b 15), .int (iI (if k3 = 0 then 0 else q3 - nt k3)), .ref (b 16), .ref (b 17), .ref (b 18), .ref (b 19), .ref (b 20), .ref (b 21), .ref (b 22)]))] := e9
              subst e9
              obtain ⟨htr4, htd4, htl4, htu4⟩ := tm_res hnr4 hdg4
              refine lv_istore (lv' := [(10, .int (iI (ll (dg 16 ge1 (ex4 k1).toNat * dg 16 ge2 (ex4 k2).toNat)))), (11, .int (iI (((if k1 = 0 then 0 else q1 - nt k1) + (if k2 = 0 then 0 else q2 - nt k2)) + (((if k3 = 0 then 0 else q3 - nt k3) + by_) - (-3400))))), (13, .int (iI (ex4 k3))), (12, .int (iI (ex4 k2))), (9, .int (iI mi)), (0, .ref (b 0)), (1, .double (dM k1 q1)), (3, .double (dM k2 q2)), (5, .double (dM k3 q3)), (7, .int (iI by_)), (8, .int (iI ls_))]) hx hb d_Mo_add_146 hl (by decide) rfl (fun ls hl => ?_)
              refine lv_aload_n hx hb d_Mo_add_148 rfl (lv_at hl 5 rfl) ?_
              refine va_get (D := D) (ci := 6) (v := .ref (b 21)) (C := R_Mo) (T := F_Mo) (N := 29) hx hb hts i_Mo hown hK hP 6 rfl rfl 27 (by decide) (hts _ wf_Mo_72) (fun _ h9 => h9) rfl d_Mo_add_149 ?_
              refine lv_iload hx hb d_Mo_add_152 (lv_at hl 0 rfl) ?_
              refine lv_aload_n hx hb d_Mo_add_154 rfl (lv_at hl 5 rfl) ?_
              refine va_get (D := D) (ci := 6) (v := .ref (b 20)) (C := R_Mo) (T := F_Mo) (N := 29) hx hb hts i_Mo hown hK hP 6 rfl rfl 26 (by decide) (hts _ wf_Mo_69) (fun _ h9 => h9) rfl d_Mo_add_155 ?_
              refine lv_iload hx hb d_Mo_add_158 (lv_at hl 2 rfl) ?_
              refine lv_aload_n hx hb d_Mo_add_160 rfl (lv_at hl 5 rfl) ?_
              refine va_get (D := D) (ci := 6) (v := .ref (b 22)) (C := R_Mo) (T := F_Mo) (N := 29) hx hb hts i_Mo hown hK hP 6 rfl rfl 28 (by decide) (hts _ wf_Mo_75) (fun _ h9 => h9) rfl d_Mo_add_161 ?_
              refine x_callS1F (V := .int (iI (ll (dg 16 gt4 (ll (dg 16 ge1 (ex4 k1).toNat * dg 16 ge2 (ex4 k2).toNat)).toNat * dg 16 ge3 (ex4 k3).toNat)))) S (c_Mo_times l D aC (b 22) (b 21) (b 20) f5 gt4 ge3 (ll (dg 16 ge1 (ex4 k1).toNat * dg 16 ge2 (ex4 k2).toNat)) (ex4 k3) (by omega) (by omega) htr4 her3) t_Mo_143 (rm_ok (by decide) (by decide)) hK hN hP hD hS [5] [4, 3] rfl rfl (fun w9 hw => by obtain ⟨gt5, rfl, hnr5, hdg5⟩ := hw; exact ⟨rfl, Nat.le_of_ble_eq_true rfl⟩) rfl hl.1 rfl (Nat.le_of_ble_eq_true rfl) d_Mo_add_164 ⟨Nat.zero_le _, Nat.zero_le _⟩ (fun w1 ws1 H locs e9 hw hP hD hS => ?_)
              obtain ⟨gt5, rfl, hnr5, hdg5⟩ := hw
              have e9 : ws1 = [(b 16, eI aC 440 f), (b 18, eI aC 1200 ge1), (b 19, eI aC 1200 ge2), (b 20, eI aC 1200 ge3), (b 21, eI aC 1200 gt4), (b 22, eI aC 1200 gt5), (b 0, .inr (6, [.int (iI er), .int (iI M.rw), .int (iI M.cn), .int (iI M.en), .int (iI M.pr), .double (dM M.ko (-3)), .ref (b 1), .ref (b 2), .ref (b 3), .ref (b 4), .ref (b 5), .ref (b 6), .ref (b 7), .ref (b 8), .ref (b 9), .ref (b 10), .ref (b 11), .ref (b 12), .ref (b 13), .ref (b 14), .ref (b 15), .int (iI (if k3 = 0 then 0 else q3 - nt k3)), .ref (b 16), .ref (b 17), .ref (b 18), .ref (b 19), .ref (b 20), .ref (b 21), .ref (b 22)]))] := e9
              subst e9
              obtain ⟨htr5, htd5, htl5, htu5⟩ := tm_res hnr5 hdg5
              refine lv_istore (lv' := [(10, .int (iI (ll (dg 16 gt4 (ll (dg 16 ge1 (ex4 k1).toNat * dg 16 ge2 (ex4 k2).toNat)).toNat * dg 16 ge3 (ex4 k3).toNat)))), (11, .int (iI (((if k1 = 0 then 0 else q1 - nt k1) + (if k2 = 0 then 0 else q2 - nt k2)) + (((if k3 = 0 then 0 else q3 - nt k3) + by_) - (-3400))))), (13, .int (iI (ex4 k3))), (12, .int (iI (ex4 k2))), (9, .int (iI mi)), (0, .ref (b 0)), (1, .double (dM k1 q1)), (3, .double (dM k2 q2)), (5, .double (dM k3 q3)), (7, .int (iI by_)), (8, .int (iI ls_))]) hx hb d_Mo_add_167 hl (by decide) rfl (fun ls hl => ?_)
              refine lv_iload hx hb d_Mo_add_169 (lv_at hl 0 rfl) ?_
              refine x_if_ne (tgt := 175) hx hb d_Mo_add_171 (by decide) (by omega) (fun c_171 => (absurd (ll_z.mpr (ad_z hs htd4 hed1 hed2 hed3)) c_171)) (fun c_171 => ?_)
              exact x_vret hx hb hr hlocks hQ (⟨rfl, f, ge1, ge2, ge3, gt4, gt5, if k3 = 0 then 0 else q3 - nt k3, rfl, hf⟩) rfl hP hS d_Mo_add_174
            refine lv_iload hx hb d_Mo_add_50 (lv_at hl 5 rfl) ?_
            refine x_icmp_eq (tgt := 59) hx hb d_Mo_add_52 (by decide) (by have := zP_01 (zP (zP (k1 < 0) ≠ zP (k2 < 0)) ≠ zP (k3 < 0)); omega) (by omega) (fun c_52 => ?_) (fun c_52 => ?_)
            · refine lv_iconst (v := iI 0) hx hb d_Mo_add_59 rfl ?_
              refine x_top _ (zP (zP (zP (zP (k1 < 0) ≠ zP (k2 < 0)) ≠ zP (k3 < 0)) ≠ ls_)) ((zP_f (fun z => z c_52)).symm) ?_
              exact K60 ls hl
            · refine lv_iconst (v := iI 1) hx hb d_Mo_add_55 rfl ?_
              refine lv_goto (tgt := 60) hx hb d_Mo_add_56 (by decide) ?_
              refine x_top _ (zP (zP (zP (zP (k1 < 0) ≠ zP (k2 < 0)) ≠ zP (k3 < 0)) ≠ ls_)) ((zP_t c_52).symm) ?_
              exact K60 ls hl
          refine x_icmp_eq (tgt := 49) hx hb d_Mo_add_42 (by decide) (by have := zP_01 (zP (k1 < 0) ≠ zP (k2 < 0)); omega) (by have := zP_01 (k3 < 0); omega) (fun c_42 => ?_) (fun c_42 => ?_)
          · refine lv_iconst (v := iI 0) hx hb d_Mo_add_49 rfl ?_
            refine x_top _ (zP (zP (zP (k1 < 0) ≠ zP (k2 < 0)) ≠ zP (k3 < 0))) ((zP_f (fun z => z c_42)).symm) ?_
            exact K50 ls hl
          · refine lv_iconst (v := iI 1) hx hb d_Mo_add_45 rfl ?_
            refine lv_goto (tgt := 50) hx hb d_Mo_add_46 (by decide) ?_
            refine x_top _ (zP (zP (zP (k1 < 0) ≠ zP (k2 < 0)) ≠ zP (k3 < 0))) ((zP_t c_42).symm) ?_
            exact K50 ls hl
        refine lv_dload hx hb d_Mo_add_30 (lv_at hl 3 rfl) ?_
        refine x_dconst0 hx hb d_Mo_add_32 ?_
        refine x_dcmp_ge (tgt := 41) hx hb d_Mo_add_33 d_Mo_add_34 (by decide) (by unfold dOk; omega) (by unfold dOk; omega) (fun c_33 => ?_) (fun c_33 => ?_)
        · refine lv_iconst (v := iI 0) hx hb d_Mo_add_41 rfl ?_
          refine x_top _ (zP (k3 < 0)) ((zP_f (fun z => absurd (zs_lt (q := q3).mpr z) (by omega))).symm) ?_
          exact K42 ls hl
        · refine lv_iconst (v := iI 1) hx hb d_Mo_add_37 rfl ?_
          refine lv_goto (tgt := 42) hx hb d_Mo_add_38 (by decide) ?_
          refine x_top _ (zP (k3 < 0)) ((zP_t (zs_lt (q := q3).mp (by omega))).symm) ?_
          exact K42 ls hl
      refine x_icmp_eq (tgt := 29) hx hb d_Mo_add_22 (by decide) (by have := zP_01 (k1 < 0); omega) (by have := zP_01 (k2 < 0); omega) (fun c_22 => ?_) (fun c_22 => ?_)
      · refine lv_iconst (v := iI 0) hx hb d_Mo_add_29 rfl ?_
        refine x_top _ (zP (zP (k1 < 0) ≠ zP (k2 < 0))) ((zP_f (fun z => z c_22)).symm) ?_
        exact K30 ls hl
      · refine lv_iconst (v := iI 1) hx hb d_Mo_add_25 rfl ?_
        refine lv_goto (tgt := 30) hx hb d_Mo_add_26 (by decide) ?_
        refine x_top _ (zP (zP (k1 < 0) ≠ zP (k2 < 0))) ((zP_t c_22).symm) ?_
        exact K30 ls hl
    refine lv_dload_n hx hb d_Mo_add_11 rfl (lv_at hl 2 rfl) ?_
    refine x_dconst0 hx hb d_Mo_add_12 ?_
    refine x_dcmp_ge (tgt := 21) hx hb d_Mo_add_13 d_Mo_add_14 (by decide) (by unfold dOk; omega) (by unfold dOk; omega) (fun c_13 => ?_) (fun c_13 => ?_)
    · refine lv_iconst (v := iI 0) hx hb d_Mo_add_21 rfl ?_
      refine x_top _ (zP (k2 < 0)) ((zP_f (fun z => absurd (zs_lt (q := q2).mpr z) (by omega))).symm) ?_
      exact K22 ls hl
    · refine lv_iconst (v := iI 1) hx hb d_Mo_add_17 rfl ?_
      refine lv_goto (tgt := 22) hx hb d_Mo_add_18 (by decide) ?_
      refine x_top _ (zP (k2 < 0)) ((zP_t (zs_lt (q := q2).mp (by omega))).symm) ?_
      exact K22 ls hl
  refine lv_dload_n hx hb d_Mo_add_0 rfl (lv_at hl 1 rfl) ?_
  refine x_dconst0 hx hb d_Mo_add_1 ?_
  refine x_dcmp_ge (tgt := 10) hx hb d_Mo_add_2 d_Mo_add_3 (by decide) (by unfold dOk; omega) (by unfold dOk; omega) (fun c_2 => ?_) (fun c_2 => ?_)
  · refine lv_iconst (v := iI 0) hx hb d_Mo_add_10 rfl ?_
    refine x_top _ (zP (k1 < 0)) ((zP_f (fun z => absurd (zs_lt (q := q1).mpr z) (by omega))).symm) ?_
    exact K11 ls hl
  · refine lv_iconst (v := iI 1) hx hb d_Mo_add_6 rfl ?_
    refine lv_goto (tgt := 11) hx hb d_Mo_add_7 (by decide) ?_
    refine x_top _ (zP (k1 < 0)) ((zP_t (zs_lt (q := q1).mp (by omega))).symm) ?_
    exact K11 ls hl
theorem ad_nz {g1 g2 g3 g4 : Int → Int} {k1 k2 k3 : Int} (hs : k1 ≠ 0 ∧ k2 ≠ 0 ∧ k3 ≠ 0) (h4 : dg 16 g4 (ll (dg 16 g1 (ex4 k1).toNat * dg 16 g2 (ex4 k2).toNat)).toNat = dg 16 g1 (ex4 k1).toNat * dg 16 g2 (ex4 k2).toNat) (h1 : dg 16 g1 (ex4 k1).toNat = (k1.natAbs : Int) * 2 ^ nt k1) (h2 : dg 16 g2 (ex4 k2).toNat = (k2.natAbs : Int) * 2 ^ nt k2) (h3 : dg 16 g3 (ex4 k3).toNat = (k3.natAbs : Int) * 2 ^ nt k3) : dg 16 g4 (ll (dg 16 g1 (ex4 k1).toNat * dg 16 g2 (ex4 k2).toNat)).toNat * dg 16 g3 (ex4 k3).toNat ≠ 0 := by
  rw [h4, h1, h2, h3]
  have p1 := Int.mul_pos (show 0 < (k1.natAbs : Int) by omega) (p2_pos (nt k1))
  have p2 := Int.mul_pos (show 0 < (k2.natAbs : Int) by omega) (p2_pos (nt k2))
  have p3 := Int.mul_pos (show 0 < (k3.natAbs : Int) by omega) (p2_pos (nt k3))
  have := Int.mul_pos (Int.mul_pos p1 p2) p3
  omega
theorem sg3 {k1 k2 k3 ls mi : Int} (hls : ls = 0 ∨ ls = 1) (hmi : zP (zP (zP (zP (k1 < 0) ≠ zP (k2 < 0)) ≠ zP (k3 < 0)) ≠ ls) = mi) : (1 - 2 * mi) * ((k1.natAbs : Int) * (k2.natAbs : Int) * (k3.natAbs : Int)) = (1 - 2 * ls) * k1 * k2 * k3 := by
  have a1 : ∀ k : Int, (1 - 2 * zP (k < 0)) * (k.natAbs : Int) = k := fun k => by
    by_cases h : k < 0
    · rw [zP_t h]; omega
    · rw [zP_f h]; omega
  have b1 : ∀ x y : Int, (x = 0 ∨ x = 1) → (y = 0 ∨ y = 1) → 1 - 2 * zP (x ≠ y) = (1 - 2 * x) * (1 - 2 * y) := fun x y hx hy => by
    rcases hx with rfl | rfl <;> rcases hy with rfl | rfl <;> rfl
  rw [← hmi, b1 _ _ (by have := zP_01 (zP (zP (k1 < 0) ≠ zP (k2 < 0)) ≠ zP (k3 < 0)); omega) hls, b1 _ _ (by have := zP_01 (zP (k1 < 0) ≠ zP (k2 < 0)); omega) (by have := zP_01 (k3 < 0); omega), b1 _ _ (by have := zP_01 (k1 < 0); omega) (by have := zP_01 (k2 < 0); omega)]
  have e1 := a1 k1
  have e2 := a1 k2
  have e3 := a1 k3
  generalize 1 - 2 * zP (k1 < 0) = s1 at *
  generalize 1 - 2 * zP (k2 < 0) = s2 at *
  generalize 1 - 2 * zP (k3 < 0) = s3 at *
  generalize 1 - 2 * ls = s4 at *
  generalize (k1.natAbs : Int) = n1 at *
  generalize (k2.natAbs : Int) = n2 at *
  generalize (k3.natAbs : Int) = n3 at *
  rw [← e1, ← e2, ← e3]
  simp only [Int.mul_assoc, Int.mul_left_comm, Int.mul_comm]
theorem ad_val {k1 k2 k3 ls mi ex P X q : Int} (hls : ls = 0 ∨ ls = 1) (hmi : zP (zP (zP (zP (k1 < 0) ≠ zP (k2 < 0)) ≠ zP (k3 < 0)) ≠ ls) = mi) (hP : P = (k1.natAbs : Int) * 2 ^ nt k1 * ((k2.natAbs : Int) * 2 ^ nt k2) * ((k3.natAbs : Int) * 2 ^ nt k3)) (hX : X = P * 2 ^ (ex % 16).toNat) (h0 : 0 ≤ ex) (hq : q = ex + nt k1 + nt k2 + nt k3) : (1 - 2 * mi) * (X * 2 ^ (16 * (ex / 16).toNat)) = (1 - 2 * ls) * k1 * k2 * k3 * 2 ^ q.toNat := by
  rw [hX, Int.mul_assoc P, ← p2_add, show (ex % 16).toNat + 16 * (ex / 16).toNat = ex.toNat by omega, hP, ← sg3 hls hmi, show q.toNat = ex.toNat + nt k1 + nt k2 + nt k3 by omega, p2_add, p2_add, p2_add]
  generalize (1 - 2 * mi) = s1
  generalize (2 : Int) ^ ex.toNat = e0
  generalize (2 : Int) ^ nt k1 = e1
  generalize (2 : Int) ^ nt k2 = e2
  generalize (2 : Int) ^ nt k3 = e3
  simp only [Int.mul_assoc, Int.mul_left_comm, Int.mul_comm]
set_option maxHeartbeats 4000000 in
set_option maxRecDepth 100000 in
theorem c_Mo_add_nz (l : Launch) (D : va_G) (aC : Nat → ClassId) (b : Nat → Nat) (M : MS) (er p2 : Int) (f f1 f2 f3 f4 f5 : Int → Int) (k1 q1 k2 q2 k3 q3 by_ ls_ V : Int) (hk1 : -4294967296 < k1 ∧ k1 < 4294967296) (hk2 : -4294967296 < k2 ∧ k2 < 4294967296) (hk3 : -4294967296 < k3 ∧ k3 < 4294967296) (hq1 : -700 ≤ q1 ∧ q1 ≤ 700) (hq2 : -700 ≤ q2 ∧ q2 ≤ 700) (hq3 : -700 ≤ q3 ∧ q3 ≤ 700) (hby : -10 ≤ by_ ∧ by_ ≤ 10) (hls : ls_ = 0 ∨ ls_ = 1) (hf : SumOk f V) (hs : k1 ≠ 0 ∧ k2 ≠ 0 ∧ k3 ≠ 0) (he : 0 ≤ q1 - nt k1 + (q2 - nt k2) + (q3 - nt k3 + by_ + 3400) ∧ q1 - nt k1 + (q2 - nt k2) + (q3 - nt k3 + by_ + 3400) ≤ 6000) : CT l D aC y_Mo_add (rd 2 60) [.ref (b 0), .double (dM k1 q1), .double (dM k2 q2), .double (dM k3 q3), .int (iI by_), .int (iI ls_)] [(b 16, eI aC 440 f), (b 18, eI aC 1200 f1), (b 19, eI aC 1200 f2), (b 20, eI aC 1200 f3), (b 21, eI aC 1200 f4), (b 22, eI aC 1200 f5), (b 0, .inr (6, [.int (iI er), .int (iI M.rw), .int (iI M.cn), .int (iI M.en), .int (iI M.pr), .double (dM M.ko (-3)), .ref (b 1), .ref (b 2), .ref (b 3), .ref (b 4), .ref (b 5), .ref (b 6), .ref (b 7), .ref (b 8), .ref (b 9), .ref (b 10), .ref (b 11), .ref (b 12), .ref (b 13), .ref (b 14), .ref (b 15), .int (iI p2), .ref (b 16), .ref (b 17), .ref (b 18), .ref (b 19), .ref (b 20), .ref (b 21), .ref (b 22)]))] (fun v w => v = none ∧ ∃ (h g1 g2 g3 g4 g5 : Int → Int) (p2' : Int), w = [(b 16, eI aC 440 h), (b 18, eI aC 1200 g1), (b 19, eI aC 1200 g2), (b 20, eI aC 1200 g3), (b 21, eI aC 1200 g4), (b 22, eI aC 1200 g5), (b 0, .inr (6, [.int (iI er), .int (iI M.rw), .int (iI M.cn), .int (iI M.en), .int (iI M.pr), .double (dM M.ko (-3)), .ref (b 1), .ref (b 2), .ref (b 3), .ref (b 4), .ref (b 5), .ref (b 6), .ref (b 7), .ref (b 8), .ref (b 9), .ref (b 10), .ref (b 11), .ref (b 12), .ref (b 13), .ref (b 14), .ref (b 15), .int (iI p2'), .ref (b 16), .ref (b 17), .ref (b 18), .ref (b 19), .ref (b 20), .ref (b 21), .ref (b 22)]))] ∧ SumOk h (V + (1 - 2 * ls_) * k1 * k2 * k3 * 2 ^ (q1 + q2 + q3 + by_ + 3400).toNat)) := by
  refine CT.of (cc := b_Mo_add) (maxL := 18) (ret := none) (by decide +kernel) k_Mo_add (Nat.le_of_ble_eq_true rfl) ?_
  intro p e s m below meth c Q S hr hlocks hQ hK hN hP hD hS ls hl
  obtain ⟨hx, hb, hml, hown, hts⟩ := id S
  have hl : lv_has ls 18 [(0, .ref (b 0)), (1, .double (dM k1 q1)), (3, .double (dM k2 q2)), (5, .double (dM k3 q3)), (7, .int (iI by_)), (8, .int (iI ls_))] := hl
  have K11 : ∀ ls : Array Slot, lv_has ls 18 [(0, .ref (b 0)), (1, .double (dM k1 q1)), (3, .double (dM k2 q2)), (5, .double (dM k3 q3)), (7, .int (iI by_)), (8, .int (iI ls_))] → W p l e (rd 2 60) s m ([.ref (b 0), .double (dM k1 q1), .double (dM k2 q2), .double (dM k3 q3), .int (iI by_), .int (iI ls_)]).toArray below meth c s.heap [] 0 0 Q (F0 m 11 ls [.int (iI (zP (k1 < 0)))]) := by
    intro ls hl
    have K22 : ∀ ls : Array Slot, lv_has ls 18 [(0, .ref (b 0)), (1, .double (dM k1 q1)), (3, .double (dM k2 q2)), (5, .double (dM k3 q3)), (7, .int (iI by_)), (8, .int (iI ls_))] → W p l e (rd 2 60) s m ([.ref (b 0), .double (dM k1 q1), .double (dM k2 q2), .double (dM k3 q3), .int (iI by_), .int (iI ls_)]).toArray below meth c s.heap [] 0 0 Q (F0 m 22 ls [.int (iI (zP (k2 < 0))), .int (iI (zP (k1 < 0)))]) := by
      intro ls hl
      have K30 : ∀ ls : Array Slot, lv_has ls 18 [(0, .ref (b 0)), (1, .double (dM k1 q1)), (3, .double (dM k2 q2)), (5, .double (dM k3 q3)), (7, .int (iI by_)), (8, .int (iI ls_))] → W p l e (rd 2 60) s m ([.ref (b 0), .double (dM k1 q1), .double (dM k2 q2), .double (dM k3 q3), .int (iI by_), .int (iI ls_)]).toArray below meth c s.heap [] 0 0 Q (F0 m 30 ls [.int (iI (zP (zP (k1 < 0) ≠ zP (k2 < 0))))]) := by
        intro ls hl
        have K42 : ∀ ls : Array Slot, lv_has ls 18 [(0, .ref (b 0)), (1, .double (dM k1 q1)), (3, .double (dM k2 q2)), (5, .double (dM k3 q3)), (7, .int (iI by_)), (8, .int (iI ls_))] → W p l e (rd 2 60) s m ([.ref (b 0), .double (dM k1 q1), .double (dM k2 q2), .double (dM k3 q3), .int (iI by_), .int (iI ls_)]).toArray below meth c s.heap [] 0 0 Q (F0 m 42 ls [.int (iI (zP (k3 < 0))), .int (iI (zP (zP (k1 < 0) ≠ zP (k2 < 0))))]) := by
          intro ls hl
          have K50 : ∀ ls : Array Slot, lv_has ls 18 [(0, .ref (b 0)), (1, .double (dM k1 q1)), (3, .double (dM k2 q2)), (5, .double (dM k3 q3)), (7, .int (iI by_)), (8, .int (iI ls_))] → W p l e (rd 2 60) s m ([.ref (b 0), .double (dM k1 q1), .double (dM k2 q2), .double (dM k3 q3), .int (iI by_), .int (iI ls_)]).toArray below meth c s.heap [] 0 0 Q (F0 m 50 ls [.int (iI (zP (zP (zP (k1 < 0) ≠ zP (k2 < 0)) ≠ zP (k3 < 0))))]) := by
            intro ls hl
            have K60 : ∀ ls : Array Slot, lv_has ls 18 [(0, .ref (b 0)), (1, .double (dM k1 q1)), (3, .double (dM k2 q2)), (5, .double (dM k3 q3)), (7, .int (iI by_)), (8, .int (iI ls_))] → W p l e (rd 2 60) s m ([.ref (b 0), .double (dM k1 q1), .double (dM k2 q2), .double (dM k3 q3), .int (iI by_), .int (iI ls_)]).toArray below meth c s.heap [] 0 0 Q (F0 m 60 ls [.int (iI (zP (zP (zP (zP (k1 < 0) ≠ zP (k2 < 0)) ≠ zP (k3 < 0)) ≠ ls_)))]) := by
              intro ls hl
              obtain ⟨mi, hmi⟩ : ∃ z : Int, zP (zP (zP (zP (k1 < 0) ≠ zP (k2 < 0)) ≠ zP (k3 < 0)) ≠ ls_) = z := ⟨_, rfl⟩
              refine x_top _ mi hmi ?_
              have hmi1 := zP_01 (zP (zP (zP (k1 < 0) ≠ zP (k2 < 0)) ≠ zP (k3 < 0)) ≠ ls_)
              rw [hmi] at hmi1
              have hmi1 : mi = 0 ∨ mi = 1 := by omega
              refine lv_istore (lv' := [(9, .int (iI mi)), (0, .ref (b 0)), (1, .double (dM k1 q1)), (3, .double (dM k2 q2)), (5, .double (dM k3 q3)), (7, .int (iI by_)), (8, .int (iI ls_))]) hx hb d_Mo_add_60 hl (by decide) rfl (fun ls hl => ?_)
              refine lv_aload_n hx hb d_Mo_add_62 rfl (lv_at hl 1 rfl) ?_
              refine lv_dload_n hx hb d_Mo_add_63 rfl (lv_at hl 2 rfl) ?_
              refine lv_aload_n hx hb d_Mo_add_64 rfl (lv_at hl 1 rfl) ?_
              refine va_get (D := D) (ci := 6) (v := .ref (b 18)) (C := R_Mo) (T := F_Mo) (N := 29) hx hb hts i_Mo hown hK hP 6 rfl rfl 24 (by decide) (hts _ wf_Mo_63) (fun _ h9 => h9) rfl d_Mo_add_65 ?_
              refine x_callV1F (V := .int (iI (ex4 k1))) S (c_Mo_exact l D aC b M er p2 (b 18) f1 k1 q1 (by omega) (by omega)) t_Mo_139 (rm_ok (by decide) (by decide)) hK hN hP hD hS [1, 6] [] rfl rfl (fun w9 hw => by obtain ⟨ge1, rfl, hed1, her1⟩ := hw; exact ⟨rfl, Nat.le_of_ble_eq_true rfl⟩) 1 6 rfl rfl rfl hl.1 rfl (Nat.le_of_ble_eq_true rfl) d_Mo_add_68 ⟨Nat.zero_le _, Nat.zero_le _⟩ (fun w1 ws1 H locs e9 hw hP hD hS => ?_)
              obtain ⟨ge1, rfl, hed1, her1⟩ := hw
              have e9 : ws1 = [(b 16, eI aC 440 f), (b 18, eI aC 1200 ge1), (b 19, eI aC 1200 f2), (b 20, eI aC 1200 f3), (b 21, eI aC 1200 f4), (b 22, eI aC 1200 f5), (b 0, .inr (6, [.int (iI er), .int (iI M.rw), .int (iI M.cn), .int (iI M.en), .int (iI M.pr), .double (dM M.ko (-3)), .ref (b 1), .ref (b 2), .ref (b 3), .ref (b 4), .ref (b 5), .ref (b 6), .ref (b 7), .ref (b 8), .ref (b 9), .ref (b 10), .ref (b 11), .ref (b 12), .ref (b 13), .ref (b 14), .ref (b 15), .int (iI (if k1 = 0 then 0 else q1 - nt k1)), .ref (b 16), .ref (b 17), .ref (b 18), .ref (b 19), .ref (b 20), .ref (b 21), .ref (b 22)]))] := e9
              subst e9
              have hx4_1 := ex4_r k1
              refine lv_istore (lv' := [(10, .int (iI (ex4 k1))), (9, .int (iI mi)), (0, .ref (b 0)), (1, .double (dM k1 q1)), (3, .double (dM k2 q2)), (5, .double (dM k3 q3)), (7, .int (iI by_)), (8, .int (iI ls_))]) hx hb d_Mo_add_71 hl (by decide) rfl (fun ls hl => ?_)
              refine lv_aload_n hx hb d_Mo_add_73 rfl (lv_at hl 2 rfl) ?_
              refine va_get (D := D) (ci := 6) (v := .int (iI (if k1 = 0 then 0 else q1 - nt k1))) (C := R_Mo) (T := F_Mo) (N := 29) hx hb hts i_Mo hown hK hP 6 rfl rfl 21 (by decide) (hts _ wf_Mo_89) (fun _ h9 => h9) rfl d_Mo_add_74 ?_
              refine x_top (if k1 = 0 then 0 else q1 - nt k1) (q1 - nt k1) (if_neg (by omega)) ?_
              refine lv_istore (lv' := [(11, .int (iI (q1 - nt k1))), (10, .int (iI (ex4 k1))), (9, .int (iI mi)), (0, .ref (b 0)), (1, .double (dM k1 q1)), (3, .double (dM k2 q2)), (5, .double (dM k3 q3)), (7, .int (iI by_)), (8, .int (iI ls_))]) hx hb d_Mo_add_77 hl (by decide) rfl (fun ls hl => ?_)
              refine lv_aload_n hx hb d_Mo_add_79 rfl (lv_at hl 3 rfl) ?_
              refine lv_dload_n hx hb d_Mo_add_80 rfl (lv_at hl 5 rfl) ?_
              refine lv_aload_n hx hb d_Mo_add_81 rfl (lv_at hl 3 rfl) ?_
              refine va_get (D := D) (ci := 6) (v := .ref (b 19)) (C := R_Mo) (T := F_Mo) (N := 29) hx hb hts i_Mo hown hK hP 6 rfl rfl 25 (by decide) (hts _ wf_Mo_66) (fun _ h9 => h9) rfl d_Mo_add_82 ?_
              refine x_callV1F (V := .int (iI (ex4 k2))) S (c_Mo_exact l D aC b M er (if k1 = 0 then 0 else q1 - nt k1) (b 19) f2 k2 q2 (by omega) (by omega)) t_Mo_139 (rm_ok (by decide) (by decide)) hK hN hP hD hS [2, 6] [] rfl rfl (fun w9 hw => by obtain ⟨ge2, rfl, hed2, her2⟩ := hw; exact ⟨rfl, Nat.le_of_ble_eq_true rfl⟩) 1 6 rfl rfl rfl hl.1 rfl (Nat.le_of_ble_eq_true rfl) d_Mo_add_85 ⟨Nat.zero_le _, Nat.zero_le _⟩ (fun w1 ws1 H locs e9 hw hP hD hS => ?_)
              obtain ⟨ge2, rfl, hed2, her2⟩ := hw
              have e9 : ws1 = [(b 16, eI aC 440 f), (b 18, eI aC 1200 ge1), (b 19, eI aC 1200 ge2), (b 20, eI aC 1200 f3), (b 21, eI aC 1200 f4), (b 22, eI aC 1200 f5), (b 0, .inr (6, [.int (iI er), .int (iI M.rw), .int (iI M.cn), .int (iI M.en), .int (iI M.pr), .double (dM M.ko (-3)), .ref (b 1), .ref (b 2), .ref (b 3), .ref (b 4), .ref (b 5), .ref (b 6), .ref (b 7), .ref (b 8), .ref (b 9), .ref (b 10), .ref (b 11), .ref (b 12), .ref (b 13), .ref (b 14), .ref (b 15), .int (iI (if k2 = 0 then 0 else q2 - nt k2)), .ref (b 16), .ref (b 17), .ref (b 18), .ref (b 19), .ref (b 20), .ref (b 21), .ref (b 22)]))] := e9
              subst e9
              have hx4_2 := ex4_r k2
              refine lv_istore (lv' := [(12, .int (iI (ex4 k2))), (11, .int (iI (q1 - nt k1))), (10, .int (iI (ex4 k1))), (9, .int (iI mi)), (0, .ref (b 0)), (1, .double (dM k1 q1)), (3, .double (dM k2 q2)), (5, .double (dM k3 q3)), (7, .int (iI by_)), (8, .int (iI ls_))]) hx hb d_Mo_add_88 hl (by decide) rfl (fun ls hl => ?_)
              refine lv_iload hx hb d_Mo_add_90 (lv_at hl 1 rfl) ?_
              refine lv_aload_n hx hb d_Mo_add_92 rfl (lv_at hl 4 rfl) ?_
              refine va_get (D := D) (ci := 6) (v := .int (iI (if k2 = 0 then 0 else q2 - nt k2))) (C := R_Mo) (T := F_Mo) (N := 29) hx hb hts i_Mo hown hK hP 6 rfl rfl 21 (by decide) (hts _ wf_Mo_89) (fun _ h9 => h9) rfl d_Mo_add_93 ?_
              refine x_top (if k2 = 0 then 0 else q2 - nt k2) (q2 - nt k2) (if_neg (by omega)) ?_
              refine x_iadd hx hb d_Mo_add_96 ?_
              refine lv_istore (lv' := [(11, .int (iI ((q1 - nt k1) + (q2 - nt k2)))), (12, .int (iI (ex4 k2))), (10, .int (iI (ex4 k1))), (9, .int (iI mi)), (0, .ref (b 0)), (1, .double (dM k1 q1)), (3, .double (dM k2 q2)), (5, .double (dM k3 q3)), (7, .int (iI by_)), (8, .int (iI ls_))]) hx hb d_Mo_add_97 hl (by decide) rfl (fun ls hl => ?_)
              refine lv_aload_n hx hb d_Mo_add_99 rfl (lv_at hl 4 rfl) ?_
              refine lv_dload hx hb d_Mo_add_100 (lv_at hl 7 rfl) ?_
              refine lv_aload_n hx hb d_Mo_add_102 rfl (lv_at hl 4 rfl) ?_
              refine va_get (D := D) (ci := 6) (v := .ref (b 20)) (C := R_Mo) (T := F_Mo) (N := 29) hx hb hts i_Mo hown hK hP 6 rfl rfl 26 (by decide) (hts _ wf_Mo_69) (fun _ h9 => h9) rfl d_Mo_add_103 ?_
              refine x_callV1F (V := .int (iI (ex4 k3))) S (c_Mo_exact l D aC b M er (if k2 = 0 then 0 else q2 - nt k2) (b 20) f3 k3 q3 (by omega) (by omega)) t_Mo_139 (rm_ok (by decide) (by decide)) hK hN hP hD hS [3, 6] [] rfl rfl (fun w9 hw => by obtain ⟨ge3, rfl, hed3, her3⟩ := hw; exact ⟨rfl, Nat.le_of_ble_eq_true rfl⟩) 1 6 rfl rfl rfl hl.1 rfl (Nat.le_of_ble_eq_true rfl) d_Mo_add_106 ⟨Nat.zero_le _, Nat.zero_le _⟩ (fun w1 ws1 H locs e9 hw hP hD hS => ?_)
              obtain ⟨ge3, rfl, hed3, her3⟩ := hw
              have e9 : ws1 = [(b 16, eI aC 440 f), (b 18, eI aC 1200 ge1), (b 19, eI aC 1200 ge2), (b 20, eI aC 1200 ge3), (b 21, eI aC 1200 f4), (b 22, eI aC 1200 f5), (b 0, .inr (6, [.int (iI er), .int (iI M.rw), .int (iI M.cn), .int (iI M.en), .int (iI M.pr), .double (dM M.ko (-3)), .ref (b 1), .ref (b 2), .ref (b 3), .ref (b 4), .ref (b 5), .ref (b 6), .ref (b 7), .ref (b 8), .ref (b 9), .ref (b 10), .ref (b 11), .ref (b 12), .ref (b 13), .ref (b 14), .ref (b 15), .int (iI (if k3 = 0 then 0 else q3 - nt k3)), .ref (b 16), .ref (b 17), .ref (b 18), .ref (b 19), .ref (b 20), .ref (b 21), .ref (b 22)]))] := e9
              subst e9
              have hx4_3 := ex4_r k3
              refine lv_istore (lv' := [(13, .int (iI (ex4 k3))), (11, .int (iI ((q1 - nt k1) + (q2 - nt k2)))), (12, .int (iI (ex4 k2))), (10, .int (iI (ex4 k1))), (9, .int (iI mi)), (0, .ref (b 0)), (1, .double (dM k1 q1)), (3, .double (dM k2 q2)), (5, .double (dM k3 q3)), (7, .int (iI by_)), (8, .int (iI ls_))]) hx hb d_Mo_add_109 hl (by decide) rfl (fun ls hl => ?_)
              refine lv_iload hx hb d_Mo_add_111 (lv_at hl 1 rfl) ?_
              refine lv_aload_n hx hb d_Mo_add_113 rfl (lv_at hl 5 rfl) ?_
              refine va_get (D := D) (ci := 6) (v := .int (iI (if k3 = 0 then 0 else q3 - nt k3))) (C := R_Mo) (T := F_Mo) (N := 29) hx hb hts i_Mo hown hK hP 6 rfl rfl 21 (by decide) (hts _ wf_Mo_89) (fun _ h9 => h9) rfl d_Mo_add_114 ?_
              refine x_top (if k3 = 0 then 0 else q3 - nt k3) (q3 - nt k3) (if_neg (by omega)) ?_
              refine lv_iload hx hb d_Mo_add_117 (lv_at hl 9 rfl) ?_
              refine x_iadd hx hb d_Mo_add_119 ?_
              refine lv_sipush (v := iI (-3400)) hx hb d_Mo_add_120 (by decide +kernel) ?_
              refine x_isub hx hb d_Mo_add_123 ?_
              refine x_iadd hx hb d_Mo_add_124 ?_
              obtain ⟨ex_, hex⟩ : ∃ z : Int, ((q1 - nt k1) + (q2 - nt k2)) + (((q3 - nt k3) + by_) - (-3400)) = z := ⟨_, rfl⟩
              refine x_top _ ex_ hex ?_
              have he6 : 0 ≤ ex_ ∧ ex_ ≤ 6000 := by omega
              refine lv_istore (lv' := [(11, .int (iI ex_)), (13, .int (iI (ex4 k3))), (12, .int (iI (ex4 k2))), (10, .int (iI (ex4 k1))), (9, .int (iI mi)), (0, .ref (b 0)), (1, .double (dM k1 q1)), (3, .double (dM k2 q2)), (5, .double (dM k3 q3)), (7, .int (iI by_)), (8, .int (iI ls_))]) hx hb d_Mo_add_125 hl (by decide) rfl (fun ls hl => ?_)
              refine lv_aload_n hx hb d_Mo_add_127 rfl (lv_at hl 5 rfl) ?_
              refine va_get (D := D) (ci := 6) (v := .ref (b 18)) (C := R_Mo) (T := F_Mo) (N := 29) hx hb hts i_Mo hown hK hP 6 rfl rfl 24 (by decide) (hts _ wf_Mo_63) (fun _ h9 => h9) rfl d_Mo_add_128 ?_
              refine lv_iload hx hb d_Mo_add_131 (lv_at hl 3 rfl) ?_
              refine lv_aload_n hx hb d_Mo_add_133 rfl (lv_at hl 5 rfl) ?_
              refine va_get (D := D) (ci := 6) (v := .ref (b 19)) (C := R_Mo) (T := F_Mo) (N := 29) hx hb hts i_Mo hown hK hP 6 rfl rfl 25 (by decide) (hts _ wf_Mo_66) (fun _ h9 => h9) rfl d_Mo_add_134 ?_
              refine lv_iload hx hb d_Mo_add_137 (lv_at hl 2 rfl) ?_
              refine lv_aload_n hx hb d_Mo_add_139 rfl (lv_at hl 5 rfl) ?_
              refine va_get (D := D) (ci := 6) (v := .ref (b 21)) (C := R_Mo) (T := F_Mo) (N := 29) hx hb hts i_Mo hown hK hP 6 rfl rfl 27 (by decide) (hts _ wf_Mo_72) (fun _ h9 => h9) rfl d_Mo_add_140 ?_
              refine x_callS1F (V := .int (iI (ll (dg 16 ge1 (ex4 k1).toNat * dg 16 ge2 (ex4 k2).toNat)))) S (c_Mo_times l D aC (b 21) (b 18) (b 19) f4 ge1 ge2 (ex4 k1) (ex4 k2) (by omega) (by omega) her1 her2) t_Mo_143 (rm_ok (by decide) (by decide)) hK hN hP hD hS [4] [1, 2] rfl rfl (fun w9 hw => by obtain ⟨gt4, rfl, hnr4, hdg4⟩ := hw; exact ⟨rfl, Nat.le_of_ble_eq_true rfl⟩) rfl hl.1 rfl (Nat.le_of_ble_eq_true rfl) d_Mo_add_143 ⟨Nat.zero_le _, Nat.zero_le _⟩ (fun w1 ws1 H locs e9 hw hP hD hS => ?_)
              obtain ⟨gt4, rfl, hnr4, hdg4⟩ := hw
              have e9 : ws1 = [(b 16, eI aC 440 f), (b 18, eI aC 1200 ge1), (b 19, eI aC 1200 ge2), (b 20, eI aC 1200 ge3), (b 21, eI aC 1200 gt4), (b 22, eI aC 1200 f5), (b 0, .inr (6, [.int (iI er), .int (iI M.rw), .int (iI M.cn), .int (iI M.en), .int (iI M.pr), .double (dM M.ko (-3)), .ref (b 1), .ref (b 2), .ref (b 3), .ref (b 4), .ref (b 5), .ref (b 6), .ref (b 7), .ref (b 8), .ref (b 9), .ref (b 10), .ref (b 11), .ref (b 12), .ref (b 13), .ref (b 14), .ref (b 15), .int (iI (if k3 = 0 then 0 else q3 - nt k3)), .ref (b 16), .ref (b 17), .ref (b 18), .ref (b 19), .ref (b 20), .ref (b 21), .ref (b 22)]))] := e9
              subst e9
              obtain ⟨htr4, htd4, htl4, htu4⟩ := tm_res hnr4 hdg4
              refine lv_istore (lv' := [(10, .int (iI (ll (dg 16 ge1 (ex4 k1).toNat * dg 16 ge2 (ex4 k2).toNat)))), (11, .int (iI ex_)), (13, .int (iI (ex4 k3))), (12, .int (iI (ex4 k2))), (9, .int (iI mi)), (0, .ref (b 0)), (1, .double (dM k1 q1)), (3, .double (dM k2 q2)), (5, .double (dM k3 q3)), (7, .int (iI by_)), (8, .int (iI ls_))]) hx hb d_Mo_add_146 hl (by decide) rfl (fun ls hl => ?_)
              refine lv_aload_n hx hb d_Mo_add_148 rfl (lv_at hl 5 rfl) ?_
              refine va_get (D := D) (ci := 6) (v := .ref (b 21)) (C := R_Mo) (T := F_Mo) (N := 29) hx hb hts i_Mo hown hK hP 6 rfl rfl 27 (by decide) (hts _ wf_Mo_72) (fun _ h9 => h9) rfl d_Mo_add_149 ?_
              refine lv_iload hx hb d_Mo_add_152 (lv_at hl 0 rfl) ?_
              refine lv_aload_n hx hb d_Mo_add_154 rfl (lv_at hl 5 rfl) ?_
              refine va_get (D := D) (ci := 6) (v := .ref (b 20)) (C := R_Mo) (T := F_Mo) (N := 29) hx hb hts i_Mo hown hK hP 6 rfl rfl 26 (by decide) (hts _ wf_Mo_69) (fun _ h9 => h9) rfl d_Mo_add_155 ?_
              refine lv_iload hx hb d_Mo_add_158 (lv_at hl 2 rfl) ?_
              refine lv_aload_n hx hb d_Mo_add_160 rfl (lv_at hl 5 rfl) ?_
              refine va_get (D := D) (ci := 6) (v := .ref (b 22)) (C := R_Mo) (T := F_Mo) (N := 29) hx hb hts i_Mo hown hK hP 6 rfl rfl 28 (by decide) (hts _ wf_Mo_75) (fun _ h9 => h9) rfl d_Mo_add_161 ?_
              refine x_callS1F (V := .int (iI (ll (dg 16 gt4 (ll (dg 16 ge1 (ex4 k1).toNat * dg 16 ge2 (ex4 k2).toNat)).toNat * dg 16 ge3 (ex4 k3).toNat)))) S (c_Mo_times l D aC (b 22) (b 21) (b 20) f5 gt4 ge3 (ll (dg 16 ge1 (ex4 k1).toNat * dg 16 ge2 (ex4 k2).toNat)) (ex4 k3) (by omega) (by omega) htr4 her3) t_Mo_143 (rm_ok (by decide) (by decide)) hK hN hP hD hS [5] [4, 3] rfl rfl (fun w9 hw => by obtain ⟨gt5, rfl, hnr5, hdg5⟩ := hw; exact ⟨rfl, Nat.le_of_ble_eq_true rfl⟩) rfl hl.1 rfl (Nat.le_of_ble_eq_true rfl) d_Mo_add_164 ⟨Nat.zero_le _, Nat.zero_le _⟩ (fun w1 ws1 H locs e9 hw hP hD hS => ?_)
              obtain ⟨gt5, rfl, hnr5, hdg5⟩ := hw
              have e9 : ws1 = [(b 16, eI aC 440 f), (b 18, eI aC 1200 ge1), (b 19, eI aC 1200 ge2), (b 20, eI aC 1200 ge3), (b 21, eI aC 1200 gt4), (b 22, eI aC 1200 gt5), (b 0, .inr (6, [.int (iI er), .int (iI M.rw), .int (iI M.cn), .int (iI M.en), .int (iI M.pr), .double (dM M.ko (-3)), .ref (b 1), .ref (b 2), .ref (b 3), .ref (b 4), .ref (b 5), .ref (b 6), .ref (b 7), .ref (b 8), .ref (b 9), .ref (b 10), .ref (b 11), .ref (b 12), .ref (b 13), .ref (b 14), .ref (b 15), .int (iI (if k3 = 0 then 0 else q3 - nt k3)), .ref (b 16), .ref (b 17), .ref (b 18), .ref (b 19), .ref (b 20), .ref (b 21), .ref (b 22)]))] := e9
              subst e9
              obtain ⟨htr5, htd5, htl5, htu5⟩ := tm_res hnr5 hdg5
              refine lv_istore (lv' := [(10, .int (iI (ll (dg 16 gt4 (ll (dg 16 ge1 (ex4 k1).toNat * dg 16 ge2 (ex4 k2).toNat)).toNat * dg 16 ge3 (ex4 k3).toNat)))), (11, .int (iI ex_)), (13, .int (iI (ex4 k3))), (12, .int (iI (ex4 k2))), (9, .int (iI mi)), (0, .ref (b 0)), (1, .double (dM k1 q1)), (3, .double (dM k2 q2)), (5, .double (dM k3 q3)), (7, .int (iI by_)), (8, .int (iI ls_))]) hx hb d_Mo_add_167 hl (by decide) rfl (fun ls hl => ?_)
              refine lv_iload hx hb d_Mo_add_169 (lv_at hl 0 rfl) ?_
              refine x_if_ne (tgt := 175) hx hb d_Mo_add_171 (by decide) (by omega) (fun c_171 => ?_) (fun c_171 => (absurd (ll_z.mp c_171) (ad_nz hs htd4 hed1 hed2 hed3)))
              refine lv_aload_n hx hb d_Mo_add_175 rfl (lv_at hl 5 rfl) ?_
              refine va_get (D := D) (ci := 6) (v := .ref (b 22)) (C := R_Mo) (T := F_Mo) (N := 29) hx hb hts i_Mo hown hK hP 6 rfl rfl 28 (by decide) (hts _ wf_Mo_75) (fun _ h9 => h9) rfl d_Mo_add_176 ?_
              refine lv_iload hx hb d_Mo_add_179 (lv_at hl 0 rfl) ?_
              refine lv_iload hx hb d_Mo_add_181 (lv_at hl 1 rfl) ?_
              refine lv_bipush (v := iI 15) hx hb d_Mo_add_183 (by decide +kernel) ?_
              refine x_iand (v := (ex_ % 16)) hx hb d_Mo_add_185 (iI_m4 _) ?_
              refine lv_aload_n hx hb d_Mo_add_186 rfl (lv_at hl 5 rfl) ?_
              refine va_get (D := D) (ci := 6) (v := .ref (b 21)) (C := R_Mo) (T := F_Mo) (N := 29) hx hb hts i_Mo hown hK hP 6 rfl rfl 27 (by decide) (hts _ wf_Mo_72) (fun _ h9 => h9) rfl d_Mo_add_187 ?_
              refine x_callS1F (V := .int (iI (ll (dg 16 gt5 (ll (dg 16 gt4 (ll (dg 16 ge1 (ex4 k1).toNat * dg 16 ge2 (ex4 k2).toNat)).toNat * dg 16 ge3 (ex4 k3).toNat)).toNat * 2 ^ (ex_ % 16).toNat)))) S (c_Mo_shiftedLeft l D aC (b 21) (b 22) gt4 gt5 (ll (dg 16 gt4 (ll (dg 16 ge1 (ex4 k1).toNat * dg 16 ge2 (ex4 k2).toNat)).toNat * dg 16 ge3 (ex4 k3).toNat)) (ex_ % 16) (by omega) (by omega) htr5) t_Mo_147 (rm_ok (by decide) (by decide)) hK hN hP hD hS [4] [5] rfl rfl (fun w9 hw => by obtain ⟨gt6, rfl, hnr6, hdg6⟩ := hw; exact ⟨rfl, Nat.le_of_ble_eq_true rfl⟩) rfl hl.1 rfl (Nat.le_of_ble_eq_true rfl) d_Mo_add_190 ⟨Nat.zero_le _, Nat.zero_le _⟩ (fun w1 ws1 H locs e9 hw hP hD hS => ?_)
              obtain ⟨gt6, rfl, hnr6, hdg6⟩ := hw
              have e9 : ws1 = [(b 16, eI aC 440 f), (b 18, eI aC 1200 ge1), (b 19, eI aC 1200 ge2), (b 20, eI aC 1200 ge3), (b 21, eI aC 1200 gt6), (b 22, eI aC 1200 gt5), (b 0, .inr (6, [.int (iI er), .int (iI M.rw), .int (iI M.cn), .int (iI M.en), .int (iI M.pr), .double (dM M.ko (-3)), .ref (b 1), .ref (b 2), .ref (b 3), .ref (b 4), .ref (b 5), .ref (b 6), .ref (b 7), .ref (b 8), .ref (b 9), .ref (b 10), .ref (b 11), .ref (b 12), .ref (b 13), .ref (b 14), .ref (b 15), .int (iI (if k3 = 0 then 0 else q3 - nt k3)), .ref (b 16), .ref (b 17), .ref (b 18), .ref (b 19), .ref (b 20), .ref (b 21), .ref (b 22)]))] := e9
              subst e9
              obtain ⟨htr6, htd6, htl6, htu6⟩ := tm_res hnr6 hdg6
              obtain ⟨L, hL⟩ : ∃ z : Int, ll (dg 16 gt5 (ll (dg 16 gt4 (ll (dg 16 ge1 (ex4 k1).toNat * dg 16 ge2 (ex4 k2).toNat)).toNat * dg 16 ge3 (ex4 k3).toNat)).toNat * 2 ^ (ex_ % 16).toNat) = z := ⟨_, rfl⟩
              refine x_top _ L hL ?_
              rw [hL] at htr6 htd6 htl6 htu6
              refine lv_istore (lv' := [(10, .int (iI L)), (11, .int (iI ex_)), (13, .int (iI (ex4 k3))), (12, .int (iI (ex4 k2))), (9, .int (iI mi)), (0, .ref (b 0)), (1, .double (dM k1 q1)), (3, .double (dM k2 q2)), (5, .double (dM k3 q3)), (7, .int (iI by_)), (8, .int (iI ls_))]) hx hb d_Mo_add_193 hl (by decide) rfl (fun ls hl => ?_)
              refine lv_iload hx hb d_Mo_add_195 (lv_at hl 1 rfl) ?_
              refine lv_iconst (v := iI 4) hx hb d_Mo_add_197 rfl ?_
              refine x_ishr hx hb d_Mo_add_198 (by omega) (by omega) ?_
              refine x_top _ (ex_ / 16) rfl ?_
              refine lv_istore (lv' := [(14, .int (iI (ex_ / 16))), (10, .int (iI L)), (11, .int (iI ex_)), (13, .int (iI (ex4 k3))), (12, .int (iI (ex4 k2))), (9, .int (iI mi)), (0, .ref (b 0)), (1, .double (dM k1 q1)), (3, .double (dM k2 q2)), (5, .double (dM k3 q3)), (7, .int (iI by_)), (8, .int (iI ls_))]) hx hb d_Mo_add_199 hl (by decide) rfl (fun ls hl => ?_)
              have K211 : ∀ ls : Array Slot, lv_has ls 18 [(14, .int (iI (ex_ / 16))), (10, .int (iI L)), (11, .int (iI ex_)), (13, .int (iI (ex4 k3))), (12, .int (iI (ex4 k2))), (9, .int (iI mi)), (0, .ref (b 0)), (1, .double (dM k1 q1)), (3, .double (dM k2 q2)), (5, .double (dM k3 q3)), (7, .int (iI by_)), (8, .int (iI ls_))] → W p l e (rd 2 60) s m ([.ref (b 0), .double (dM k1 q1), .double (dM k2 q2), .double (dM k3 q3), .int (iI by_), .int (iI ls_)]).toArray below meth c H locs 0 0 Q (F0 m 211 ls [.int (iI mi)]) := by
                intro ls hl
                refine lv_istore (lv' := [(15, .int (iI mi)), (14, .int (iI (ex_ / 16))), (10, .int (iI L)), (11, .int (iI ex_)), (13, .int (iI (ex4 k3))), (12, .int (iI (ex4 k2))), (9, .int (iI mi)), (0, .ref (b 0)), (1, .double (dM k1 q1)), (3, .double (dM k2 q2)), (5, .double (dM k3 q3)), (7, .int (iI by_)), (8, .int (iI ls_))]) hx hb d_Mo_add_211 hl (by decide) rfl (fun ls hl => ?_)
                refine lv_iload hx hb d_Mo_add_213 (lv_at hl 1 rfl) ?_
                refine lv_istore (lv' := [(16, .int (iI (ex_ / 16))), (15, .int (iI mi)), (14, .int (iI (ex_ / 16))), (10, .int (iI L)), (11, .int (iI ex_)), (13, .int (iI (ex4 k3))), (12, .int (iI (ex4 k2))), (9, .int (iI mi)), (0, .ref (b 0)), (1, .double (dM k1 q1)), (3, .double (dM k2 q2)), (5, .double (dM k3 q3)), (7, .int (iI by_)), (8, .int (iI ls_))]) hx hb d_Mo_add_215 hl (by decide) rfl (fun ls hl => ?_)
                have L217 : ∀ (nn : Nat) (t : Int) (cy : Int) (h : Int → Int) (H : Heap) (locs : List Loc) (ls : Array Slot), (ex_ / 16 ≤ t ∧ t ≤ 440) → (0 ≤ cy ∧ cy ≤ 1) → (∀ j : Int, 0 ≤ j → j < 440 → 0 ≤ h j ∧ h j < 65536) → (∀ j : Int, t ≤ j → j < 440 → h j = f j) → (dg 16 h t.toNat + cy * 2 ^ (16 * t.toNat) = dg 16 f t.toNat + (1 - 2 * mi) * (2 ^ (16 * (ex_ / 16).toNat) * dg 16 (lm gt6 L) (t - ex_ / 16).toNat) + mi * 2 ^ (16 * t.toNat)) → 440 - t < (nn : Int) → va_P D CL [(b 16, eI aC 440 h), (b 18, eI aC 1200 ge1), (b 19, eI aC 1200 ge2), (b 20, eI aC 1200 ge3), (b 21, eI aC 1200 gt6), (b 22, eI aC 1200 gt5), (b 0, .inr (6, [.int (iI er), .int (iI M.rw), .int (iI M.cn), .int (iI M.en), .int (iI M.pr), .double (dM M.ko (-3)), .ref (b 1), .ref (b 2), .ref (b 3), .ref (b 4), .ref (b 5), .ref (b 6), .ref (b 7), .ref (b 8), .ref (b 9), .ref (b 10), .ref (b 11), .ref (b 12), .ref (b 13), .ref (b 14), .ref (b 15), .int (iI (if k3 = 0 then 0 else q3 - nt k3)), .ref (b 16), .ref (b 17), .ref (b 18), .ref (b 19), .ref (b 20), .ref (b 21), .ref (b 22)]))] H → va_D (aW [(b 16, eI aC 440 f), (b 18, eI aC 1200 f1), (b 19, eI aC 1200 f2), (b 20, eI aC 1200 f3), (b 21, eI aC 1200 f4), (b 22, eI aC 1200 f5), (b 0, .inr (6, [.int (iI er), .int (iI M.rw), .int (iI M.cn), .int (iI M.en), .int (iI M.pr), .double (dM M.ko (-3)), .ref (b 1), .ref (b 2), .ref (b 3), .ref (b 4), .ref (b 5), .ref (b 6), .ref (b 7), .ref (b 8), .ref (b 9), .ref (b 10), .ref (b 11), .ref (b 12), .ref (b 13), .ref (b 14), .ref (b 15), .int (iI p2), .ref (b 16), .ref (b 17), .ref (b 18), .ref (b 19), .ref (b 20), .ref (b 21), .ref (b 22)]))]) [(b 16, eI aC 440 h), (b 18, eI aC 1200 ge1), (b 19, eI aC 1200 ge2), (b 20, eI aC 1200 ge3), (b 21, eI aC 1200 gt6), (b 22, eI aC 1200 gt5), (b 0, .inr (6, [.int (iI er), .int (iI M.rw), .int (iI M.cn), .int (iI M.en), .int (iI M.pr), .double (dM M.ko (-3)), .ref (b 1), .ref (b 2), .ref (b 3), .ref (b 4), .ref (b 5), .ref (b 6), .ref (b 7), .ref (b 8), .ref (b 9), .ref (b 10), .ref (b 11), .ref (b 12), .ref (b 13), .ref (b 14), .ref (b 15), .int (iI (if k3 = 0 then 0 else q3 - nt k3)), .ref (b 16), .ref (b 17), .ref (b 18), .ref (b 19), .ref (b 20), .ref (b 21), .ref (b 22)]))] → va_S (aW [(b 16, eI aC 440 f), (b 18, eI aC 1200 f1), (b 19, eI aC 1200 f2), (b 20, eI aC 1200 f3), (b 21, eI aC 1200 f4), (b 22, eI aC 1200 f5), (b 0, .inr (6, [.int (iI er), .int (iI M.rw), .int (iI M.cn), .int (iI M.en), .int (iI M.pr), .double (dM M.ko (-3)), .ref (b 1), .ref (b 2), .ref (b 3), .ref (b 4), .ref (b 5), .ref (b 6), .ref (b 7), .ref (b 8), .ref (b 9), .ref (b 10), .ref (b 11), .ref (b 12), .ref (b 13), .ref (b 14), .ref (b 15), .int (iI p2), .ref (b 16), .ref (b 17), .ref (b 18), .ref (b 19), .ref (b 20), .ref (b 21), .ref (b 22)]))]) s.heap H locs → lv_has ls 18 [(16, .int (iI t)), (15, .int (iI cy)), (14, .int (iI (ex_ / 16))), (10, .int (iI L)), (9, .int (iI mi)), (0, .ref (b 0))] → W p l e (rd 2 60) s m ([.ref (b 0), .double (dM k1 q1), .double (dM k2 q2), .double (dM k3 q3), .int (iI by_), .int (iI ls_)]).toArray below meth c H locs 0 0 Q (F0 m 217 ls []) := by
                  intro nn
                  induction nn with
                  | zero => intro t cy h H locs ls ht hc hr9 hsm hsum hnn; exact absurd hnn (by omega)
                  | succ nn ih =>
                    intro t cy h H locs ls ht hc hr9 hsm hsum hnn hP hD hS hl
                    refine lv_iload hx hb d_Mo_add_217 (lv_at hl 0 rfl) ?_
                    refine lv_sipush (v := iI 440) hx hb d_Mo_add_219 (by decide +kernel) ?_
                    refine x_icmp_ge (tgt := 306) hx hb d_Mo_add_222 (by decide) (by omega) (by omega) (fun c_222 => ?_) (fun c_222 => ?_)
                    · exact x_vret hx hb hr hlocks hQ (⟨rfl, h, ge1, ge2, ge3, gt6, gt5, (if k3 = 0 then 0 else q3 - nt k3), rfl, by
                          have e9 := ad_end (X := dg 16 gt6 L.toNat) (z := ex_ / 16) (L := L) (mi := mi) (by omega) (by omega) rfl hr9 hf (by rw [show t = 440 by omega] at hsum; exact hsum)
                          rw [ad_val (q := q1 + q2 + q3 + by_ + 3400) hls hmi rfl (X := dg 16 gt6 L.toNat) (by rw [htd6, htd5, htd4, hed1, hed2, hed3]) (by omega) (by omega)] at e9
                          exact e9⟩) rfl hP hS d_Mo_add_306
                    · have K249 : ∀ ls : Array Slot, lv_has ls 18 [(16, .int (iI t)), (15, .int (iI cy)), (14, .int (iI (ex_ / 16))), (10, .int (iI L)), (9, .int (iI mi)), (0, .ref (b 0))] → W p l e (rd 2 60) s m ([.ref (b 0), .double (dM k1 q1), .double (dM k2 q2), .double (dM k3 q3), .int (iI by_), .int (iI ls_)]).toArray below meth c H locs 0 0 Q (F0 m 249 ls [.int (iI (lm gt6 L (t - ex_ / 16)))]) := by
                        intro ls hl
                        refine lv_istore (lv' := [(17, .int (iI (lm gt6 L (t - ex_ / 16)))), (16, .int (iI t)), (15, .int (iI cy)), (14, .int (iI (ex_ / 16))), (10, .int (iI L)), (9, .int (iI mi)), (0, .ref (b 0))]) hx hb d_Mo_add_249 hl (by decide) rfl (fun ls hl => ?_)
                        have hlm : 0 ≤ lm gt6 L (t - ex_ / 16) ∧ lm gt6 L (t - ex_ / 16) < 65536 := by
                          unfold lm; split
                          · exact htr6 _ (by omega) (by omega)
                          · omega
                        have hht := hr9 t (by omega) (by omega)
                        refine lv_iload hx hb d_Mo_add_251 (lv_at hl 2 rfl) ?_
                        refine lv_aload_n hx hb d_Mo_add_253 rfl (lv_at hl 6 rfl) ?_
                        refine va_get (D := D) (ci := 6) (v := .ref (b 16)) (C := R_Mo) (T := F_Mo) (N := 29) hx hb hts i_Mo hown hK hP 6 rfl rfl 22 (by decide) (hts _ wf_Mo_56) (fun _ h9 => h9) rfl d_Mo_add_254 ?_
                        refine lv_iload hx hb d_Mo_add_257 (lv_at hl 1 rfl) ?_
                        refine x_iald hx hb hK hP 0 rfl (by omega) (by decide) d_Mo_add_259 ?_
                        have K277 : ∀ ls : Array Slot, lv_has ls 18 [(17, .int (iI (lm gt6 L (t - ex_ / 16)))), (16, .int (iI t)), (15, .int (iI cy)), (14, .int (iI (ex_ / 16))), (10, .int (iI L)), (9, .int (iI mi)), (0, .ref (b 0))] → W p l e (rd 2 60) s m ([.ref (b 0), .double (dM k1 q1), .double (dM k2 q2), .double (dM k3 q3), .int (iI by_), .int (iI ls_)]).toArray below meth c H locs 0 0 Q (F0 m 277 ls [.int (iI (mi * 65535 + (1 - 2 * mi) * lm gt6 L (t - ex_ / 16))), .int (iI (h t)), .int (iI cy)]) := by
                          intro ls hl
                          obtain ⟨yv, hyv⟩ : ∃ z : Int, mi * 65535 + (1 - 2 * mi) * lm gt6 L (t - ex_ / 16) = z := ⟨_, rfl⟩
                          refine x_top _ yv hyv ?_
                          have hyr : 0 ≤ yv ∧ yv < 65536 := by rcases hmi1 with z | z <;> (rw [z] at hyv; omega)
                          refine x_iadd hx hb d_Mo_add_277 ?_
                          refine x_iadd hx hb d_Mo_add_278 ?_
                          obtain ⟨S2, hSd⟩ : ∃ z : Int, cy + ((h t) + yv) = z := ⟨_, rfl⟩
                          refine x_top _ S2 hSd ?_
                          refine lv_istore (lv' := [(15, .int (iI S2)), (17, .int (iI (lm gt6 L (t - ex_ / 16)))), (16, .int (iI t)), (14, .int (iI (ex_ / 16))), (10, .int (iI L)), (9, .int (iI mi)), (0, .ref (b 0))]) hx hb d_Mo_add_279 hl (by decide) rfl (fun ls hl => ?_)
                          refine lv_aload_n hx hb d_Mo_add_281 rfl (lv_at hl 6 rfl) ?_
                          refine va_get (D := D) (ci := 6) (v := .ref (b 16)) (C := R_Mo) (T := F_Mo) (N := 29) hx hb hts i_Mo hown hK hP 6 rfl rfl 22 (by decide) (hts _ wf_Mo_56) (fun _ h9 => h9) rfl d_Mo_add_282 ?_
                          refine lv_iload hx hb d_Mo_add_285 (lv_at hl 2 rfl) ?_
                          refine lv_iload hx hb d_Mo_add_287 (lv_at hl 0 rfl) ?_
                          refine x_ldc hx hb 65535 (by decide +kernel) hown (hts _ wk_Mo_88) d_Mo_add_289 ?_
                          refine x_iand (v := (S2 % 65536)) hx hb d_Mo_add_291 (iI_m16 _) ?_
                          refine x_iast hx hb hK hP hD hS 0 rfl (by omega) (by decide) d_Mo_add_292 (fun H locs hP hD hS => ?_)
                          have hP : va_P D CL [(b 16, eI aC 440 (updI h t (S2 % 65536))), (b 18, eI aC 1200 ge1), (b 19, eI aC 1200 ge2), (b 20, eI aC 1200 ge3), (b 21, eI aC 1200 gt6), (b 22, eI aC 1200 gt5), (b 0, .inr (6, [.int (iI er), .int (iI M.rw), .int (iI M.cn), .int (iI M.en), .int (iI M.pr), .double (dM M.ko (-3)), .ref (b 1), .ref (b 2), .ref (b 3), .ref (b 4), .ref (b 5), .ref (b 6), .ref (b 7), .ref (b 8), .ref (b 9), .ref (b 10), .ref (b 11), .ref (b 12), .ref (b 13), .ref (b 14), .ref (b 15), .int (iI (if k3 = 0 then 0 else q3 - nt k3)), .ref (b 16), .ref (b 17), .ref (b 18), .ref (b 19), .ref (b 20), .ref (b 21), .ref (b 22)]))] H := hP
                          have hD : va_D (aW [(b 16, eI aC 440 f), (b 18, eI aC 1200 f1), (b 19, eI aC 1200 f2), (b 20, eI aC 1200 f3), (b 21, eI aC 1200 f4), (b 22, eI aC 1200 f5), (b 0, .inr (6, [.int (iI er), .int (iI M.rw), .int (iI M.cn), .int (iI M.en), .int (iI M.pr), .double (dM M.ko (-3)), .ref (b 1), .ref (b 2), .ref (b 3), .ref (b 4), .ref (b 5), .ref (b 6), .ref (b 7), .ref (b 8), .ref (b 9), .ref (b 10), .ref (b 11), .ref (b 12), .ref (b 13), .ref (b 14), .ref (b 15), .int (iI p2), .ref (b 16), .ref (b 17), .ref (b 18), .ref (b 19), .ref (b 20), .ref (b 21), .ref (b 22)]))]) [(b 16, eI aC 440 (updI h t (S2 % 65536))), (b 18, eI aC 1200 ge1), (b 19, eI aC 1200 ge2), (b 20, eI aC 1200 ge3), (b 21, eI aC 1200 gt6), (b 22, eI aC 1200 gt5), (b 0, .inr (6, [.int (iI er), .int (iI M.rw), .int (iI M.cn), .int (iI M.en), .int (iI M.pr), .double (dM M.ko (-3)), .ref (b 1), .ref (b 2), .ref (b 3), .ref (b 4), .ref (b 5), .ref (b 6), .ref (b 7), .ref (b 8), .ref (b 9), .ref (b 10), .ref (b 11), .ref (b 12), .ref (b 13), .ref (b 14), .ref (b 15), .int (iI (if k3 = 0 then 0 else q3 - nt k3)), .ref (b 16), .ref (b 17), .ref (b 18), .ref (b 19), .ref (b 20), .ref (b 21), .ref (b 22)]))] := hD
                          refine lv_iload hx hb d_Mo_add_293 (lv_at hl 0 rfl) ?_
                          refine lv_bipush (v := iI 16) hx hb d_Mo_add_295 (by decide +kernel) ?_
                          refine x_ishr hx hb d_Mo_add_297 (by omega) (by omega) ?_
                          refine x_top _ (S2 / 65536) rfl ?_
                          refine lv_istore (lv' := [(15, .int (iI (S2 / 65536))), (17, .int (iI (lm gt6 L (t - ex_ / 16)))), (16, .int (iI t)), (14, .int (iI (ex_ / 16))), (10, .int (iI L)), (9, .int (iI mi)), (0, .ref (b 0))]) hx hb d_Mo_add_298 hl (by decide) rfl (fun ls hl => ?_)
                          refine lv_iinc (v := iI (t + 1)) (lv' := [(16, .int (iI (t + 1))), (15, .int (iI (S2 / 65536))), (17, .int (iI (lm gt6 L (t - ex_ / 16)))), (14, .int (iI (ex_ / 16))), (10, .int (iI L)), (9, .int (iI mi)), (0, .ref (b 0))]) hx hb d_Mo_add_300 hl (k := 2) rfl (iI_add _ _) (by decide) rfl (fun ls hl => ?_)
                          refine lv_goto (tgt := 217) hx hb d_Mo_add_303 (by decide) ?_
                          exact ih (t + 1) (S2 / 65536) (updI h t (S2 % 65536)) _ _ ls (by omega) (by omega) (fun j h1 h2 => by
                            by_cases hj : j = t
                            · rw [hj, updI_s]; omega
                            · rw [updI_n hj]; exact hr9 j h1 h2) (fun j h1 h2 => by rw [updI_n (by omega)]; exact hsm j (by omega) h2) (ad_step (by omega) hmi1 (hsm t (by omega) (by omega)) hyv.symm hSd hsum) (by omega) hP hD hS (lv_sub hl [0, 1, 3, 4, 5, 6] rfl)
                        refine lv_iload hx hb d_Mo_add_260 (lv_at hl 5 rfl) ?_
                        refine x_if_eq (tgt := 275) hx hb d_Mo_add_262 (by decide) (by omega) (fun c_262 => ?_) (fun c_262 => ?_)
                        · refine lv_iload hx hb d_Mo_add_275 (lv_at hl 0 rfl) ?_
                          refine x_top _ (mi * 65535 + (1 - 2 * mi) * lm gt6 L (t - ex_ / 16)) (by rw [show mi = 0 by omega]; omega) ?_
                          exact K277 ls hl
                        · refine lv_iload hx hb d_Mo_add_265 (lv_at hl 0 rfl) ?_
                          refine lv_iconst (v := iI (-1)) hx hb d_Mo_add_267 rfl ?_
                          refine x_ixor (v := (-(lm gt6 L (t - ex_ / 16)) - 1)) hx hb d_Mo_add_268 (iI_not _) ?_
                          refine x_ldc hx hb 65535 (by decide +kernel) hown (hts _ wk_Mo_88) d_Mo_add_269 ?_
                          refine x_iand (v := ((-(lm gt6 L (t - ex_ / 16)) - 1) % 65536)) hx hb d_Mo_add_271 (iI_m16 _) ?_
                          refine lv_goto (tgt := 277) hx hb d_Mo_add_272 (by decide) ?_
                          refine x_top _ (mi * 65535 + (1 - 2 * mi) * lm gt6 L (t - ex_ / 16)) (by rw [show mi = 1 by omega]; omega) ?_
                          exact K277 ls hl
                      refine lv_iload hx hb d_Mo_add_225 (lv_at hl 0 rfl) ?_
                      refine lv_iload hx hb d_Mo_add_227 (lv_at hl 2 rfl) ?_
                      refine x_isub hx hb d_Mo_add_229 ?_
                      refine lv_iload hx hb d_Mo_add_230 (lv_at hl 3 rfl) ?_
                      refine x_icmp_ge (tgt := 248) hx hb d_Mo_add_232 (by decide) (by omega) (by omega) (fun c_232 => ?_) (fun c_232 => ?_)
                      · refine lv_iconst (v := iI 0) hx hb d_Mo_add_248 rfl ?_
                        refine x_top _ (lm gt6 L (t - ex_ / 16)) ((if_neg (by omega)).symm) ?_
                        exact K249 ls hl
                      · refine lv_aload_n hx hb d_Mo_add_235 rfl (lv_at hl 5 rfl) ?_
                        refine va_get (D := D) (ci := 6) (v := .ref (b 21)) (C := R_Mo) (T := F_Mo) (N := 29) hx hb hts i_Mo hown hK hP 6 rfl rfl 27 (by decide) (hts _ wf_Mo_72) (fun _ h9 => h9) rfl d_Mo_add_236 ?_
                        refine lv_iload hx hb d_Mo_add_239 (lv_at hl 0 rfl) ?_
                        refine lv_iload hx hb d_Mo_add_241 (lv_at hl 2 rfl) ?_
                        refine x_isub hx hb d_Mo_add_243 ?_
                        refine x_iald hx hb hK hP 4 rfl (by omega) (by decide) d_Mo_add_244 ?_
                        refine lv_goto (tgt := 249) hx hb d_Mo_add_245 (by decide) ?_
                        refine x_top _ (lm gt6 L (t - ex_ / 16)) ((if_pos (by omega)).symm) ?_
                        exact K249 ls hl
                exact L217 _ (ex_ / 16) mi f _ _ ls (by omega) (by omega) (fun j h1 h2 => by have := hf.1 j h1 h2; rw [p16] at this; exact this) (fun j h1 h2 => rfl) (by rw [Int.sub_self]; show _ = _ + (1 - 2 * mi) * (_ * 0) + _; rw [Int.mul_zero, Int.mul_zero, Int.add_zero]) (n_lt _) hP hD hS (lv_sub hl [0, 1, 2, 3, 7, 8] rfl)
              refine lv_iload hx hb d_Mo_add_201 (lv_at hl 5 rfl) ?_
              refine x_if_eq (tgt := 210) hx hb d_Mo_add_203 (by decide) (by omega) (fun c_203 => ?_) (fun c_203 => ?_)
              · refine lv_iconst (v := iI 0) hx hb d_Mo_add_210 rfl ?_
                refine x_top _ mi (by omega) ?_
                exact K211 ls hl
              · refine lv_iconst (v := iI 1) hx hb d_Mo_add_206 rfl ?_
                refine lv_goto (tgt := 211) hx hb d_Mo_add_207 (by decide) ?_
                refine x_top _ mi (by omega) ?_
                exact K211 ls hl
            refine lv_iload hx hb d_Mo_add_50 (lv_at hl 5 rfl) ?_
            refine x_icmp_eq (tgt := 59) hx hb d_Mo_add_52 (by decide) (by have := zP_01 (zP (zP (k1 < 0) ≠ zP (k2 < 0)) ≠ zP (k3 < 0)); omega) (by omega) (fun c_52 => ?_) (fun c_52 => ?_)
            · refine lv_iconst (v := iI 0) hx hb d_Mo_add_59 rfl ?_
              refine x_top _ (zP (zP (zP (zP (k1 < 0) ≠ zP (k2 < 0)) ≠ zP (k3 < 0)) ≠ ls_)) ((zP_f (fun z => z c_52)).symm) ?_
              exact K60 ls hl
            · refine lv_iconst (v := iI 1) hx hb d_Mo_add_55 rfl ?_
              refine lv_goto (tgt := 60) hx hb d_Mo_add_56 (by decide) ?_
              refine x_top _ (zP (zP (zP (zP (k1 < 0) ≠ zP (k2 < 0)) ≠ zP (k3 < 0)) ≠ ls_)) ((zP_t c_52).symm) ?_
              exact K60 ls hl
          refine x_icmp_eq (tgt := 49) hx hb d_Mo_add_42 (by decide) (by have := zP_01 (zP (k1 < 0) ≠ zP (k2 < 0)); omega) (by have := zP_01 (k3 < 0); omega) (fun c_42 => ?_) (fun c_42 => ?_)
          · refine lv_iconst (v := iI 0) hx hb d_Mo_add_49 rfl ?_
            refine x_top _ (zP (zP (zP (k1 < 0) ≠ zP (k2 < 0)) ≠ zP (k3 < 0))) ((zP_f (fun z => z c_42)).symm) ?_
            exact K50 ls hl
          · refine lv_iconst (v := iI 1) hx hb d_Mo_add_45 rfl ?_
            refine lv_goto (tgt := 50) hx hb d_Mo_add_46 (by decide) ?_
            refine x_top _ (zP (zP (zP (k1 < 0) ≠ zP (k2 < 0)) ≠ zP (k3 < 0))) ((zP_t c_42).symm) ?_
            exact K50 ls hl
        refine lv_dload hx hb d_Mo_add_30 (lv_at hl 3 rfl) ?_
        refine x_dconst0 hx hb d_Mo_add_32 ?_
        refine x_dcmp_ge (tgt := 41) hx hb d_Mo_add_33 d_Mo_add_34 (by decide) (by unfold dOk; omega) (by unfold dOk; omega) (fun c_33 => ?_) (fun c_33 => ?_)
        · refine lv_iconst (v := iI 0) hx hb d_Mo_add_41 rfl ?_
          refine x_top _ (zP (k3 < 0)) ((zP_f (fun z => absurd (zs_lt (q := q3).mpr z) (by omega))).symm) ?_
          exact K42 ls hl
        · refine lv_iconst (v := iI 1) hx hb d_Mo_add_37 rfl ?_
          refine lv_goto (tgt := 42) hx hb d_Mo_add_38 (by decide) ?_
          refine x_top _ (zP (k3 < 0)) ((zP_t (zs_lt (q := q3).mp (by omega))).symm) ?_
          exact K42 ls hl
      refine x_icmp_eq (tgt := 29) hx hb d_Mo_add_22 (by decide) (by have := zP_01 (k1 < 0); omega) (by have := zP_01 (k2 < 0); omega) (fun c_22 => ?_) (fun c_22 => ?_)
      · refine lv_iconst (v := iI 0) hx hb d_Mo_add_29 rfl ?_
        refine x_top _ (zP (zP (k1 < 0) ≠ zP (k2 < 0))) ((zP_f (fun z => z c_22)).symm) ?_
        exact K30 ls hl
      · refine lv_iconst (v := iI 1) hx hb d_Mo_add_25 rfl ?_
        refine lv_goto (tgt := 30) hx hb d_Mo_add_26 (by decide) ?_
        refine x_top _ (zP (zP (k1 < 0) ≠ zP (k2 < 0))) ((zP_t c_22).symm) ?_
        exact K30 ls hl
    refine lv_dload_n hx hb d_Mo_add_11 rfl (lv_at hl 2 rfl) ?_
    refine x_dconst0 hx hb d_Mo_add_12 ?_
    refine x_dcmp_ge (tgt := 21) hx hb d_Mo_add_13 d_Mo_add_14 (by decide) (by unfold dOk; omega) (by unfold dOk; omega) (fun c_13 => ?_) (fun c_13 => ?_)
    · refine lv_iconst (v := iI 0) hx hb d_Mo_add_21 rfl ?_
      refine x_top _ (zP (k2 < 0)) ((zP_f (fun z => absurd (zs_lt (q := q2).mpr z) (by omega))).symm) ?_
      exact K22 ls hl
    · refine lv_iconst (v := iI 1) hx hb d_Mo_add_17 rfl ?_
      refine lv_goto (tgt := 22) hx hb d_Mo_add_18 (by decide) ?_
      refine x_top _ (zP (k2 < 0)) ((zP_t (zs_lt (q := q2).mp (by omega))).symm) ?_
      exact K22 ls hl
  refine lv_dload_n hx hb d_Mo_add_0 rfl (lv_at hl 1 rfl) ?_
  refine x_dconst0 hx hb d_Mo_add_1 ?_
  refine x_dcmp_ge (tgt := 10) hx hb d_Mo_add_2 d_Mo_add_3 (by decide) (by unfold dOk; omega) (by unfold dOk; omega) (fun c_2 => ?_) (fun c_2 => ?_)
  · refine lv_iconst (v := iI 0) hx hb d_Mo_add_10 rfl ?_
    refine x_top _ (zP (k1 < 0)) ((zP_f (fun z => absurd (zs_lt (q := q1).mpr z) (by omega))).symm) ?_
    exact K11 ls hl
  · refine lv_iconst (v := iI 1) hx hb d_Mo_add_6 rfl ?_
    refine lv_goto (tgt := 11) hx hb d_Mo_add_7 (by decide) ?_
    refine x_top _ (zP (k1 < 0)) ((zP_t (zs_lt (q := q1).mp (by omega))).symm) ?_
    exact K11 ls hl
theorem c_Mo_add (l : Launch) (D : va_G) (aC : Nat → ClassId) (b : Nat → Nat) (M : MS) (er p2 : Int) (f f1 f2 f3 f4 f5 : Int → Int) (k1 q1 k2 q2 k3 q3 by_ ls_ V : Int) (hk1 : -4294967296 < k1 ∧ k1 < 4294967296) (hk2 : -4294967296 < k2 ∧ k2 < 4294967296) (hk3 : -4294967296 < k3 ∧ k3 < 4294967296) (hq1 : -700 ≤ q1 ∧ q1 ≤ 700) (hq2 : -700 ≤ q2 ∧ q2 ≤ 700) (hq3 : -700 ≤ q3 ∧ q3 ≤ 700) (hby : -10 ≤ by_ ∧ by_ ≤ 10) (hls : ls_ = 0 ∨ ls_ = 1) (hf : SumOk f V) (hqs : -2000 ≤ q1 + q2 + q3 + by_ ∧ q1 + q2 + q3 + by_ ≤ 2000) : CT l D aC y_Mo_add (rd 2 60) [.ref (b 0), .double (dM k1 q1), .double (dM k2 q2), .double (dM k3 q3), .int (iI by_), .int (iI ls_)] [(b 16, eI aC 440 f), (b 18, eI aC 1200 f1), (b 19, eI aC 1200 f2), (b 20, eI aC 1200 f3), (b 21, eI aC 1200 f4), (b 22, eI aC 1200 f5), (b 0, .inr (6, [.int (iI er), .int (iI M.rw), .int (iI M.cn), .int (iI M.en), .int (iI M.pr), .double (dM M.ko (-3)), .ref (b 1), .ref (b 2), .ref (b 3), .ref (b 4), .ref (b 5), .ref (b 6), .ref (b 7), .ref (b 8), .ref (b 9), .ref (b 10), .ref (b 11), .ref (b 12), .ref (b 13), .ref (b 14), .ref (b 15), .int (iI p2), .ref (b 16), .ref (b 17), .ref (b 18), .ref (b 19), .ref (b 20), .ref (b 21), .ref (b 22)]))] (fun v w => v = none ∧ ∃ (h g1 g2 g3 g4 g5 : Int → Int) (p2' : Int), w = [(b 16, eI aC 440 h), (b 18, eI aC 1200 g1), (b 19, eI aC 1200 g2), (b 20, eI aC 1200 g3), (b 21, eI aC 1200 g4), (b 22, eI aC 1200 g5), (b 0, .inr (6, [.int (iI er), .int (iI M.rw), .int (iI M.cn), .int (iI M.en), .int (iI M.pr), .double (dM M.ko (-3)), .ref (b 1), .ref (b 2), .ref (b 3), .ref (b 4), .ref (b 5), .ref (b 6), .ref (b 7), .ref (b 8), .ref (b 9), .ref (b 10), .ref (b 11), .ref (b 12), .ref (b 13), .ref (b 14), .ref (b 15), .int (iI p2'), .ref (b 16), .ref (b 17), .ref (b 18), .ref (b 19), .ref (b 20), .ref (b 21), .ref (b 22)]))] ∧ SumOk h (V + (1 - 2 * ls_) * k1 * k2 * k3 * 2 ^ (q1 + q2 + q3 + by_ + 3400).toNat)) := by
  rcases (show (k1 = 0 ∨ k2 = 0 ∨ k3 = 0) ∨ (k1 ≠ 0 ∧ k2 ≠ 0 ∧ k3 ≠ 0) by omega) with h | h
  · have e : V + (1 - 2 * ls_) * k1 * k2 * k3 * 2 ^ (q1 + q2 + q3 + by_ + 3400).toNat = V := by
      rcases h with rfl | rfl | rfl <;> simp
    rw [e]
    exact c_Mo_add_z l D aC b M er p2 f f1 f2 f3 f4 f5 k1 q1 k2 q2 k3 q3 by_ ls_ V hk1 hk2 hk3 hq1 hq2 hq3 hby hls hf h
  · have r1 := nt_r (k := (k1.natAbs : Int)) (by omega) (by omega)
    have r2 := nt_r (k := (k2.natAbs : Int)) (by omega) (by omega)
    have r3 := nt_r (k := (k3.natAbs : Int)) (by omega) (by omega)
    have a1 : ∀ k : Int, nt ((k.natAbs : Int)) = nt k := fun k => by unfold nt; rw [Int.natAbs_natCast]
    rw [a1] at r1 r2 r3
    exact c_Mo_add_nz l D aC b M er p2 f f1 f2 f3 f4 f5 k1 q1 k2 q2 k3 q3 by_ ls_ V hk1 hk2 hk3 hq1 hq2 hq3 hby hls hf h (by omega)
