set_option maxHeartbeats 4000000 in
set_option maxRecDepth 100000 in
theorem c_Mo_goalOf (l : Launch) (D : va_G) (aC : Nat → ClassId) (b : Nat → Nat) (M : MS) (hM : MI M) (er p2 : Int) (f f1 f2 f3 f4 f5 : Int → Int) : CT l D aC y_Mo_goalOf (rd 4 120) [.ref (b 0)] [(b 16, eI aC 440 f), (b 18, eI aC 1200 f1), (b 19, eI aC 1200 f2), (b 20, eI aC 1200 f3), (b 21, eI aC 1200 f4), (b 22, eI aC 1200 f5), (b 0, .inr (6, [.int (iI er), .int (iI M.rw), .int (iI M.cn), .int (iI M.en), .int (iI M.pr), .double (dM M.ko (-3)), .ref (b 1), .ref (b 2), .ref (b 3), .ref (b 4), .ref (b 5), .ref (b 6), .ref (b 7), .ref (b 8), .ref (b 9), .ref (b 10), .ref (b 11), .ref (b 12), .ref (b 13), .ref (b 14), .ref (b 15), .int (iI p2), .ref (b 16), .ref (b 17), .ref (b 18), .ref (b 19), .ref (b 20), .ref (b 21), .ref (b 22)])), (b 2, eD aC 16 (dA M.kc c3)), (b 3, eD aC 256 (dA M.kq c3)), (b 8, eD aC 16 (dA M.kx M.xb)), (b 11, eZ aC 256 M.qi)] (fun v w => v = none ∧ ∃ (h g1 g2 g3 g4 g5 : Int → Int) (p2' : Int), w = [(b 16, eI aC 440 h), (b 18, eI aC 1200 g1), (b 19, eI aC 1200 g2), (b 20, eI aC 1200 g3), (b 21, eI aC 1200 g4), (b 22, eI aC 1200 g5), (b 0, .inr (6, [.int (iI er), .int (iI M.rw), .int (iI M.cn), .int (iI M.en), .int (iI M.pr), .double (dM M.ko (-3)), .ref (b 1), .ref (b 2), .ref (b 3), .ref (b 4), .ref (b 5), .ref (b 6), .ref (b 7), .ref (b 8), .ref (b 9), .ref (b 10), .ref (b 11), .ref (b 12), .ref (b 13), .ref (b 14), .ref (b 15), .int (iI p2'), .ref (b 16), .ref (b 17), .ref (b 18), .ref (b 19), .ref (b 20), .ref (b 21), .ref (b 22)])), (b 2, eD aC 16 (dA M.kc c3)), (b 3, eD aC 256 (dA M.kq c3)), (b 8, eD aC 16 (dA M.kx M.xb)), (b 11, eZ aC 256 M.qi)] ∧ SumOk h (0 + U3 1 M.ko (-3) 1 0 1 0 0 + su (mC M 1) M.cn.toNat)) := by
  refine CT.of (cc := b_Mo_goalOf) (maxL := 1) (ret := none) (by decide +kernel) k_Mo_goalOf (Nat.le_of_ble_eq_true rfl) ?_
  intro p e s m below meth c Q S hr hlocks hQ hK hN hP hD hS ls hl
  obtain ⟨hx, hb, hml, hown, hts⟩ := id S
  have hl : lv_has ls 1 [(0, .ref (b 0))] := hl
  have hrw := hM.rw
  have hcn := hM.cn
  refine lv_aload_n hx hb d_Mo_goalOf_0 rfl (lv_at hl 0 rfl) ?_
  refine x_callV0F S (c_Mo_zero l D aC b M er p2 f) t_Mo_165 (rm_ok (by decide) (by decide)) hK hN hP hD hS [0] [6] rfl rfl (fun w9 hw => by obtain ⟨s1, rfl, hs1⟩ := hw; exact ⟨rfl, Nat.le_of_ble_eq_true rfl⟩) 1 6 rfl rfl rfl hl.1 rfl (Nat.le_of_ble_eq_true rfl) d_Mo_goalOf_1 ⟨Nat.zero_le _, Nat.zero_le _⟩ (fun w1 ws1 H locs e9 hw hP hD hS => ?_)
  obtain ⟨s1, rfl, hs1⟩ := hw
  have e9 : ws1 = [(b 16, eI aC 440 s1), (b 18, eI aC 1200 f1), (b 19, eI aC 1200 f2), (b 20, eI aC 1200 f3), (b 21, eI aC 1200 f4), (b 22, eI aC 1200 f5), (b 0, .inr (6, [.int (iI er), .int (iI M.rw), .int (iI M.cn), .int (iI M.en), .int (iI M.pr), .double (dM M.ko (-3)), .ref (b 1), .ref (b 2), .ref (b 3), .ref (b 4), .ref (b 5), .ref (b 6), .ref (b 7), .ref (b 8), .ref (b 9), .ref (b 10), .ref (b 11), .ref (b 12), .ref (b 13), .ref (b 14), .ref (b 15), .int (iI p2), .ref (b 16), .ref (b 17), .ref (b 18), .ref (b 19), .ref (b 20), .ref (b 21), .ref (b 22)])), (b 2, eD aC 16 (dA M.kc c3)), (b 3, eD aC 256 (dA M.kq c3)), (b 8, eD aC 16 (dA M.kx M.xb)), (b 11, eZ aC 256 M.qi)] := e9
  subst e9
  refine lv_aload_n hx hb d_Mo_goalOf_4 rfl (lv_at hl 0 rfl) ?_
  refine lv_aload_n hx hb d_Mo_goalOf_5 rfl (lv_at hl 0 rfl) ?_
  have hko := hM.ko
  refine va_get (D := D) (ci := 6) (v := .double (dM M.ko (-3))) (C := R_Mo) (T := F_Mo) (N := 29) hx hb hts i_Mo hown hK hP 6 rfl rfl 5 (by decide) (hts _ wf_Mo_119) (fun _ h9 => h9) rfl d_Mo_goalOf_6 ?_
  refine x_dconst1 hx hb d_Mo_goalOf_9 ?_
  refine x_dconst1 hx hb d_Mo_goalOf_10 ?_
  refine lv_iconst (v := iI 0) hx hb d_Mo_goalOf_11 rfl ?_
  refine lv_iconst (v := iI 1) hx hb d_Mo_goalOf_12 rfl ?_
  refine x_callV0F S (c_Mo_add l D aC b M er p2 s1 f1 f2 f3 f4 f5 M.ko (-3) 1 0 1 0 0 1 0 (by omega) (by omega) (by omega) (by omega) (by omega) (by omega) (by omega) (by omega) hs1 (by omega)) t_Mo_168 (rm_ok (by decide) (by decide)) hK hN hP hD hS [0, 1, 2, 3, 4, 5, 6] [] rfl rfl (fun w9 hw => by obtain ⟨s2, g1_2, g2_2, g3_2, g4_2, g5_2, p2_2, rfl, hs2⟩ := hw; exact ⟨rfl, Nat.le_of_ble_eq_true rfl⟩) 6 6 rfl rfl rfl hl.1 rfl (Nat.le_of_ble_eq_true rfl) d_Mo_goalOf_13 ⟨Nat.zero_le _, Nat.zero_le _⟩ (fun w1 ws1 H locs e9 hw hP hD hS => ?_)
  obtain ⟨s2, g1_2, g2_2, g3_2, g4_2, g5_2, p2_2, rfl, hs2⟩ := hw
  have e9 : ws1 = [(b 16, eI aC 440 s2), (b 18, eI aC 1200 g1_2), (b 19, eI aC 1200 g2_2), (b 20, eI aC 1200 g3_2), (b 21, eI aC 1200 g4_2), (b 22, eI aC 1200 g5_2), (b 0, .inr (6, [.int (iI er), .int (iI M.rw), .int (iI M.cn), .int (iI M.en), .int (iI M.pr), .double (dM M.ko (-3)), .ref (b 1), .ref (b 2), .ref (b 3), .ref (b 4), .ref (b 5), .ref (b 6), .ref (b 7), .ref (b 8), .ref (b 9), .ref (b 10), .ref (b 11), .ref (b 12), .ref (b 13), .ref (b 14), .ref (b 15), .int (iI p2_2), .ref (b 16), .ref (b 17), .ref (b 18), .ref (b 19), .ref (b 20), .ref (b 21), .ref (b 22)])), (b 2, eD aC 16 (dA M.kc c3)), (b 3, eD aC 256 (dA M.kq c3)), (b 8, eD aC 16 (dA M.kx M.xb)), (b 11, eZ aC 256 M.qi)] := e9
  subst e9
  refine lv_aload_n hx hb d_Mo_goalOf_16 rfl (lv_at hl 0 rfl) ?_
  refine lv_iconst (v := iI 1) hx hb d_Mo_goalOf_17 rfl ?_
  refine x_callV0F S (c_Mo_goal l D aC b M hM er p2_2 s2 g1_2 g2_2 g3_2 g4_2 g5_2 1 (0 + U3 1 M.ko (-3) 1 0 1 0 0) (by omega) hs2) t_Mo_190 (rm_ok (by decide) (by decide)) hK hN hP hD hS [0, 1, 2, 3, 4, 5, 6] [7, 8, 9, 10] rfl (by decide +kernel) (fun w9 hw => by obtain ⟨s3, g1_3, g2_3, g3_3, g4_3, g5_3, p2_3, rfl, hs3⟩ := hw; exact ⟨rfl, Nat.le_of_ble_eq_true rfl⟩) 6 6 rfl rfl rfl hl.1 rfl (Nat.le_of_ble_eq_true rfl) d_Mo_goalOf_18 ⟨Nat.zero_le _, Nat.zero_le _⟩ (fun w1 ws1 H locs e9 hw hP hD hS => ?_)
  obtain ⟨s3, g1_3, g2_3, g3_3, g4_3, g5_3, p2_3, rfl, hs3⟩ := hw
  have e9 : ws1 = [(b 16, eI aC 440 s3), (b 18, eI aC 1200 g1_3), (b 19, eI aC 1200 g2_3), (b 20, eI aC 1200 g3_3), (b 21, eI aC 1200 g4_3), (b 22, eI aC 1200 g5_3), (b 0, .inr (6, [.int (iI er), .int (iI M.rw), .int (iI M.cn), .int (iI M.en), .int (iI M.pr), .double (dM M.ko (-3)), .ref (b 1), .ref (b 2), .ref (b 3), .ref (b 4), .ref (b 5), .ref (b 6), .ref (b 7), .ref (b 8), .ref (b 9), .ref (b 10), .ref (b 11), .ref (b 12), .ref (b 13), .ref (b 14), .ref (b 15), .int (iI p2_3), .ref (b 16), .ref (b 17), .ref (b 18), .ref (b 19), .ref (b 20), .ref (b 21), .ref (b 22)])), (b 2, eD aC 16 (dA M.kc c3)), (b 3, eD aC 256 (dA M.kq c3)), (b 8, eD aC 16 (dA M.kx M.xb)), (b 11, eZ aC 256 M.qi)] := e9
  subst e9
  exact x_vret hx hb hr hlocks hQ (⟨rfl, s3, g1_3, g2_3, g3_3, g4_3, g5_3, p2_3, rfl, hs3⟩) rfl hP hS d_Mo_goalOf_21
set_option maxHeartbeats 4000000 in
set_option maxRecDepth 100000 in
theorem c_Mo_thrown (l : Launch) (D : va_G) (aC : Nat → ClassId) (b : Nat → Nat) (M : MS) (er p2 : Int) : CR l D aC y_Mo_thrown (rd 0 0) [.ref (b 0)] [(b 0, .inr (6, [.int (iI er), .int (iI M.rw), .int (iI M.cn), .int (iI M.en), .int (iI M.pr), .double (dM M.ko (-3)), .ref (b 1), .ref (b 2), .ref (b 3), .ref (b 4), .ref (b 5), .ref (b 6), .ref (b 7), .ref (b 8), .ref (b 9), .ref (b 10), .ref (b 11), .ref (b 12), .ref (b 13), .ref (b 14), .ref (b 15), .int (iI p2), .ref (b 16), .ref (b 17), .ref (b 18), .ref (b 19), .ref (b 20), .ref (b 21), .ref (b 22)]))] (fun v => v = some (.int (iI er))) := by
  refine CR.of (cc := b_Mo_thrown) (maxL := 1) (ret := (some .int)) (by decide +kernel) k_Mo_thrown (Nat.le_of_ble_eq_true rfl) ?_
  intro p e s m below meth c Q S hr hlocks hQ hK hN hP ls hl
  obtain ⟨hx, hb, hml, hown, hts⟩ := id S
  have hl : lv_has ls 1 [(0, .ref (b 0))] := hl
  refine lv_aload_n hx hb d_Mo_thrown_0 rfl (lv_at hl 0 rfl) ?_
  refine va_get (D := D) (ci := 6) (v := .int (iI er)) (C := R_Mo) (T := F_Mo) (N := 29) hx hb hts i_Mo hown hK hP 0 rfl rfl 0 (by decide) (hts _ wf_Mo_78) (fun _ h9 => h9) rfl d_Mo_thrown_1 ?_
  exact y_iret hx hb hr hlocks hQ (rfl) d_Mo_thrown_4
set_option maxHeartbeats 4000000 in
set_option maxRecDepth 100000 in
theorem c_Mo_constant (l : Launch) (D : va_G) (aC : Nat → ClassId) (b : Nat → Nat) (M : MS) (er p2 : Int) (k : Int) (hk : -4294967296 < k ∧ k < 4294967296) : CT l D aC y_Mo_constant (rd 2 44) [.ref (b 0), .double (dM k (-3))] [(b 0, .inr (6, [.int (iI er), .int (iI M.rw), .int (iI M.cn), .int (iI M.en), .int (iI M.pr), .double (dM M.ko (-3)), .ref (b 1), .ref (b 2), .ref (b 3), .ref (b 4), .ref (b 5), .ref (b 6), .ref (b 7), .ref (b 8), .ref (b 9), .ref (b 10), .ref (b 11), .ref (b 12), .ref (b 13), .ref (b 14), .ref (b 15), .int (iI p2), .ref (b 16), .ref (b 17), .ref (b 18), .ref (b 19), .ref (b 20), .ref (b 21), .ref (b 22)]))] (fun v w => v = none ∧ w = [(b 0, .inr (6, [.int (iI 0), .int (iI M.rw), .int (iI M.cn), .int (iI M.en), .int (iI M.pr), .double (dM (-k) (-3)), .ref (b 1), .ref (b 2), .ref (b 3), .ref (b 4), .ref (b 5), .ref (b 6), .ref (b 7), .ref (b 8), .ref (b 9), .ref (b 10), .ref (b 11), .ref (b 12), .ref (b 13), .ref (b 14), .ref (b 15), .int (iI p2), .ref (b 16), .ref (b 17), .ref (b 18), .ref (b 19), .ref (b 20), .ref (b 21), .ref (b 22)]))]) := by
  refine CT.of (cc := b_Mo_constant) (maxL := 3) (ret := none) (by decide +kernel) k_Mo_constant (Nat.le_of_ble_eq_true rfl) ?_
  intro p e s m below meth c Q S hr hlocks hQ hK hN hP hD hS ls hl
  obtain ⟨hx, hb, hml, hown, hts⟩ := id S
  have hl : lv_has ls 3 [(0, .ref (b 0)), (1, .double (dM k (-3)))] := hl
  refine lv_aload_n hx hb d_Mo_constant_0 rfl (lv_at hl 0 rfl) ?_
  refine lv_iconst (v := iI 0) hx hb d_Mo_constant_1 rfl ?_
  refine va_put (D := D) (ci := 6) (v := .int (iI 0)) (ty := .int) (C := R_Mo) (T := F_Mo) (N := 29) hx hb hts i_Mo t_Mo t_Mo_ok n_Mo hown hK hP hD hS 0 rfl rfl 0 (by decide) (hts _ wf_Mo_78) (fun _ h9 => h9) rfl (by decide +kernel) rfl rfl (Nat.le_of_ble_eq_true rfl) d_Mo_constant_2 (fun H locs hP hD hS => ?_)
  have hP : va_P D CL [(b 0, .inr (6, [.int (iI 0), .int (iI M.rw), .int (iI M.cn), .int (iI M.en), .int (iI M.pr), .double (dM M.ko (-3)), .ref (b 1), .ref (b 2), .ref (b 3), .ref (b 4), .ref (b 5), .ref (b 6), .ref (b 7), .ref (b 8), .ref (b 9), .ref (b 10), .ref (b 11), .ref (b 12), .ref (b 13), .ref (b 14), .ref (b 15), .int (iI p2), .ref (b 16), .ref (b 17), .ref (b 18), .ref (b 19), .ref (b 20), .ref (b 21), .ref (b 22)]))] H := hP
  have hD : va_D (aW [(b 0, .inr (6, [.int (iI er), .int (iI M.rw), .int (iI M.cn), .int (iI M.en), .int (iI M.pr), .double (dM M.ko (-3)), .ref (b 1), .ref (b 2), .ref (b 3), .ref (b 4), .ref (b 5), .ref (b 6), .ref (b 7), .ref (b 8), .ref (b 9), .ref (b 10), .ref (b 11), .ref (b 12), .ref (b 13), .ref (b 14), .ref (b 15), .int (iI p2), .ref (b 16), .ref (b 17), .ref (b 18), .ref (b 19), .ref (b 20), .ref (b 21), .ref (b 22)]))]) [(b 0, .inr (6, [.int (iI 0), .int (iI M.rw), .int (iI M.cn), .int (iI M.en), .int (iI M.pr), .double (dM M.ko (-3)), .ref (b 1), .ref (b 2), .ref (b 3), .ref (b 4), .ref (b 5), .ref (b 6), .ref (b 7), .ref (b 8), .ref (b 9), .ref (b 10), .ref (b 11), .ref (b 12), .ref (b 13), .ref (b 14), .ref (b 15), .int (iI p2), .ref (b 16), .ref (b 17), .ref (b 18), .ref (b 19), .ref (b 20), .ref (b 21), .ref (b 22)]))] := hD
  refine lv_aload_n hx hb d_Mo_constant_5 rfl (lv_at hl 0 rfl) ?_
  refine lv_dload_n hx hb d_Mo_constant_6 rfl (lv_at hl 1 rfl) ?_
  refine y_callS1 (V := .int (iI 1)) S (c_Mo_isNumber l D aC k (-3) (by omega) (by omega)) t_Mo_108 (rm_ok (by decide) (by decide)) hK hN hP [] rfl rfl hl.1 rfl (Nat.le_of_ble_eq_true rfl) d_Mo_constant_7 ⟨Nat.zero_le _, Nat.zero_le _⟩ ?_
  refine x_if_ne (tgt := 17) hx hb d_Mo_constant_10 (by decide) (by decide) (fun c_10 => ?_) (fun c_10 => (by exfalso; omega))
  refine lv_iconst (v := iI 0) hx hb d_Mo_constant_17 rfl ?_
  refine lv_iconst (v := iI 1) hx hb d_Mo_constant_18 rfl ?_
  refine x_callV1F (V := .int (iI (zP (fE 0 0 1 ≠ 0)))) S (c_Mo_fails l D aC b M 0 p2 0 1 (by omega) (by omega) (by omega)) t_Mo_112 (rm_ok (by decide) (by decide)) hK hN hP hD hS [0] [] rfl rfl (fun w9 hw => by obtain rfl := hw; exact ⟨rfl, Nat.le_of_ble_eq_true rfl⟩) 0 6 rfl rfl rfl hl.1 rfl (Nat.le_of_ble_eq_true rfl) d_Mo_constant_19 ⟨Nat.zero_le _, Nat.zero_le _⟩ (fun w1 ws1 H locs e9 hw hP hD hS => ?_)
  obtain rfl := hw
  have e9 : ws1 = [(b 0, .inr (6, [.int (iI (fE 0 0 1)), .int (iI M.rw), .int (iI M.cn), .int (iI M.en), .int (iI M.pr), .double (dM M.ko (-3)), .ref (b 1), .ref (b 2), .ref (b 3), .ref (b 4), .ref (b 5), .ref (b 6), .ref (b 7), .ref (b 8), .ref (b 9), .ref (b 10), .ref (b 11), .ref (b 12), .ref (b 13), .ref (b 14), .ref (b 15), .int (iI p2), .ref (b 16), .ref (b 17), .ref (b 18), .ref (b 19), .ref (b 20), .ref (b 21), .ref (b 22)]))] := e9
  subst e9
  refine x_ifneP (tgt := 35) hx hb d_Mo_constant_22 (by decide) (fun c_22 => ((c_22 rfl).elim)) (fun c_22 => ?_)
  refine lv_aload_n hx hb d_Mo_constant_25 rfl (lv_at hl 0 rfl) ?_
  refine x_dconst0 hx hb d_Mo_constant_26 ?_
  refine lv_dload_n hx hb d_Mo_constant_27 rfl (lv_at hl 1 rfl) ?_
  refine y_callS1 (V := .double (dM k (-3))) S (c_Mo_given l D aC k (-3) (by omega) (by omega)) t_Mo_116 (rm_ok (by decide) (by decide)) hK hN hP [] rfl rfl hl.1 rfl (Nat.le_of_ble_eq_true rfl) d_Mo_constant_28 ⟨Nat.zero_le _, Nat.zero_le _⟩ ?_
  refine x_dsub0 hx hb d_Mo_constant_31 (by unfold dOk; omega) ?_
  refine va_put (D := D) (ci := 6) (v := .double (dM (-k) (-3))) (ty := .double) (C := R_Mo) (T := F_Mo) (N := 29) hx hb hts i_Mo t_Mo t_Mo_ok n_Mo hown hK hP hD hS 0 rfl rfl 5 (by decide) (hts _ wf_Mo_119) (fun _ h9 => h9) rfl (by decide +kernel) rfl rfl (Nat.le_of_ble_eq_true rfl) d_Mo_constant_32 (fun H locs hP hD hS => ?_)
  have hP : va_P D CL [(b 0, .inr (6, [.int (iI (fE 0 0 1)), .int (iI M.rw), .int (iI M.cn), .int (iI M.en), .int (iI M.pr), .double (dM (-k) (-3)), .ref (b 1), .ref (b 2), .ref (b 3), .ref (b 4), .ref (b 5), .ref (b 6), .ref (b 7), .ref (b 8), .ref (b 9), .ref (b 10), .ref (b 11), .ref (b 12), .ref (b 13), .ref (b 14), .ref (b 15), .int (iI p2), .ref (b 16), .ref (b 17), .ref (b 18), .ref (b 19), .ref (b 20), .ref (b 21), .ref (b 22)]))] H := hP
  have hD : va_D (aW [(b 0, .inr (6, [.int (iI er), .int (iI M.rw), .int (iI M.cn), .int (iI M.en), .int (iI M.pr), .double (dM M.ko (-3)), .ref (b 1), .ref (b 2), .ref (b 3), .ref (b 4), .ref (b 5), .ref (b 6), .ref (b 7), .ref (b 8), .ref (b 9), .ref (b 10), .ref (b 11), .ref (b 12), .ref (b 13), .ref (b 14), .ref (b 15), .int (iI p2), .ref (b 16), .ref (b 17), .ref (b 18), .ref (b 19), .ref (b 20), .ref (b 21), .ref (b 22)]))]) [(b 0, .inr (6, [.int (iI (fE 0 0 1)), .int (iI M.rw), .int (iI M.cn), .int (iI M.en), .int (iI M.pr), .double (dM (-k) (-3)), .ref (b 1), .ref (b 2), .ref (b 3), .ref (b 4), .ref (b 5), .ref (b 6), .ref (b 7), .ref (b 8), .ref (b 9), .ref (b 10), .ref (b 11), .ref (b 12), .ref (b 13), .ref (b 14), .ref (b 15), .int (iI p2), .ref (b 16), .ref (b 17), .ref (b 18), .ref (b 19), .ref (b 20), .ref (b 21), .ref (b 22)]))] := hD
  exact x_vret hx hb hr hlocks hQ (⟨rfl, rfl⟩) rfl hP hS d_Mo_constant_35
