theorem dA_upd {k q : Int → Int} {i k' q' : Int} : updD (dA k q) i (dM k' q') = dA (updI k i k') (updI q i q') := by
  funext j
  unfold updD dA updI
  by_cases h : j = i
  · rw [if_pos h, if_pos h, if_pos h]
  · rw [if_neg h, if_neg h, if_neg h]
theorem dA_upd3 {k : Int → Int} {i k' : Int} : updD (dA k c3) i (dM k' (-3)) = dA (updI k i k') c3 := by
  funext j
  unfold updD dA updI c3
  by_cases h : j = i
  · rw [if_pos h, if_pos h]
  · rw [if_neg h, if_neg h]

set_option maxHeartbeats 4000000 in
set_option maxRecDepth 100000 in
theorem c_Mo_x (l : Launch) (D : va_G) (aC : Nat → ClassId) (b : Nat → Nat) (M : MS) (hM : MI M) (er p2 : Int) (j k : Int) (hj : -2147483648 ≤ j ∧ j < 2147483648) (hk : -4294967296 < k ∧ k < 4294967296) (by_ : Int) (hby : -2147483648 ≤ by_ ∧ by_ < 2147483648) : CT l D aC y_Mo_x (rd 2 44) [.ref (b 0), .int (iI j), .double (dM k (-3)), .int (iI by_)] [(b 0, .inr (6, [.int (iI er), .int (iI M.rw), .int (iI M.cn), .int (iI M.en), .int (iI M.pr), .double (dM M.ko (-3)), .ref (b 1), .ref (b 2), .ref (b 3), .ref (b 4), .ref (b 5), .ref (b 6), .ref (b 7), .ref (b 8), .ref (b 9), .ref (b 10), .ref (b 11), .ref (b 12), .ref (b 13), .ref (b 14), .ref (b 15), .int (iI p2), .ref (b 16), .ref (b 17), .ref (b 18), .ref (b 19), .ref (b 20), .ref (b 21), .ref (b 22)])), (b 8, eD aC 16 (dA M.kx M.xb))] (fun v w => v = none ∧ ((¬ (-600 ≤ by_ ∧ by_ ≤ 600) ∧ w = [(b 0, .inr (6, [.int (iI 1), .int (iI M.rw), .int (iI M.cn), .int (iI M.en), .int (iI M.pr), .double (dM M.ko (-3)), .ref (b 1), .ref (b 2), .ref (b 3), .ref (b 4), .ref (b 5), .ref (b 6), .ref (b 7), .ref (b 8), .ref (b 9), .ref (b 10), .ref (b 11), .ref (b 12), .ref (b 13), .ref (b 14), .ref (b 15), .int (iI p2), .ref (b 16), .ref (b 17), .ref (b 18), .ref (b 19), .ref (b 20), .ref (b 21), .ref (b 22)])), (b 8, eD aC 16 (dA M.kx M.xb))]) ∨ ((-600 ≤ by_ ∧ by_ ≤ 600) ∧ ¬ (0 ≤ j ∧ j < M.cn) ∧ w = [(b 0, .inr (6, [.int (iI 2), .int (iI M.rw), .int (iI M.cn), .int (iI M.en), .int (iI M.pr), .double (dM M.ko (-3)), .ref (b 1), .ref (b 2), .ref (b 3), .ref (b 4), .ref (b 5), .ref (b 6), .ref (b 7), .ref (b 8), .ref (b 9), .ref (b 10), .ref (b 11), .ref (b 12), .ref (b 13), .ref (b 14), .ref (b 15), .int (iI p2), .ref (b 16), .ref (b 17), .ref (b 18), .ref (b 19), .ref (b 20), .ref (b 21), .ref (b 22)])), (b 8, eD aC 16 (dA M.kx M.xb))]) ∨ ((-600 ≤ by_ ∧ by_ ≤ 600) ∧ (0 ≤ j ∧ j < M.cn) ∧ w = [(b 0, .inr (6, [.int (iI 0), .int (iI M.rw), .int (iI M.cn), .int (iI M.en), .int (iI M.pr), .double (dM M.ko (-3)), .ref (b 1), .ref (b 2), .ref (b 3), .ref (b 4), .ref (b 5), .ref (b 6), .ref (b 7), .ref (b 8), .ref (b 9), .ref (b 10), .ref (b 11), .ref (b 12), .ref (b 13), .ref (b 14), .ref (b 15), .int (iI p2), .ref (b 16), .ref (b 17), .ref (b 18), .ref (b 19), .ref (b 20), .ref (b 21), .ref (b 22)])), (b 8, eD aC 16 (dA (updI M.kx j k) (updI M.xb j (-3 + by_))))]))) := by
  refine CT.of (cc := b_Mo_x) (maxL := 5) (ret := none) (by decide +kernel) k_Mo_x (Nat.le_of_ble_eq_true rfl) ?_
  intro p e s m below meth c Q S hr hlocks hQ hK hN hP hD hS ls hl
  obtain ⟨hx, hb, hml, hown, hts⟩ := id S
  have hl : lv_has ls 5 [(0, .ref (b 0)), (1, .int (iI j)), (2, .double (dM k (-3))), (4, .int (iI by_))] := hl
  have hrw := hM.rw
  have hcn := hM.cn
  refine lv_aload_n hx hb d_Mo_x_0 rfl (lv_at hl 0 rfl) ?_
  refine lv_iconst (v := iI 0) hx hb d_Mo_x_1 rfl ?_
  refine va_put (D := D) (ci := 6) (v := .int (iI 0)) (ty := .int) (C := R_Mo) (T := F_Mo) (N := 29) hx hb hts i_Mo t_Mo t_Mo_ok n_Mo hown hK hP hD hS 0 rfl rfl 0 (by decide) (hts _ wf_Mo_78) (fun _ h9 => h9) rfl (by decide +kernel) rfl rfl (Nat.le_of_ble_eq_true rfl) d_Mo_x_2 (fun H locs hP hD hS => ?_)
  have hP : va_P D CL [(b 0, .inr (6, [.int (iI 0), .int (iI M.rw), .int (iI M.cn), .int (iI M.en), .int (iI M.pr), .double (dM M.ko (-3)), .ref (b 1), .ref (b 2), .ref (b 3), .ref (b 4), .ref (b 5), .ref (b 6), .ref (b 7), .ref (b 8), .ref (b 9), .ref (b 10), .ref (b 11), .ref (b 12), .ref (b 13), .ref (b 14), .ref (b 15), .int (iI p2), .ref (b 16), .ref (b 17), .ref (b 18), .ref (b 19), .ref (b 20), .ref (b 21), .ref (b 22)])), (b 8, eD aC 16 (dA M.kx M.xb))] H := hP
  have hD : va_D (aW [(b 0, .inr (6, [.int (iI er), .int (iI M.rw), .int (iI M.cn), .int (iI M.en), .int (iI M.pr), .double (dM M.ko (-3)), .ref (b 1), .ref (b 2), .ref (b 3), .ref (b 4), .ref (b 5), .ref (b 6), .ref (b 7), .ref (b 8), .ref (b 9), .ref (b 10), .ref (b 11), .ref (b 12), .ref (b 13), .ref (b 14), .ref (b 15), .int (iI p2), .ref (b 16), .ref (b 17), .ref (b 18), .ref (b 19), .ref (b 20), .ref (b 21), .ref (b 22)])), (b 8, eD aC 16 (dA M.kx M.xb))]) [(b 0, .inr (6, [.int (iI 0), .int (iI M.rw), .int (iI M.cn), .int (iI M.en), .int (iI M.pr), .double (dM M.ko (-3)), .ref (b 1), .ref (b 2), .ref (b 3), .ref (b 4), .ref (b 5), .ref (b 6), .ref (b 7), .ref (b 8), .ref (b 9), .ref (b 10), .ref (b 11), .ref (b 12), .ref (b 13), .ref (b 14), .ref (b 15), .int (iI p2), .ref (b 16), .ref (b 17), .ref (b 18), .ref (b 19), .ref (b 20), .ref (b 21), .ref (b 22)])), (b 8, eD aC 16 (dA M.kx M.xb))] := hD
  refine lv_aload_n hx hb d_Mo_x_5 rfl (lv_at hl 0 rfl) ?_
  refine lv_dload_n hx hb d_Mo_x_6 rfl (lv_at hl 2 rfl) ?_
  refine y_callS1 (V := .int (iI 1)) S (c_Mo_isNumber l D aC k (-3) (by omega) (by omega)) t_Mo_108 (rm_ok (by decide) (by decide)) hK hN hP [] rfl rfl hl.1 rfl (Nat.le_of_ble_eq_true rfl) d_Mo_x_7 ⟨Nat.zero_le _, Nat.zero_le _⟩ ?_
  refine x_if_eq (tgt := 27) hx hb d_Mo_x_10 (by decide) (by decide) (fun c_10 => (by exfalso; omega)) (fun c_10 => ?_)
  refine lv_iload hx hb d_Mo_x_13 (lv_at hl 3 rfl) ?_
  refine lv_sipush (v := iI (-600)) hx hb d_Mo_x_15 (by decide +kernel) ?_
  refine lv_sipush (v := iI 600) hx hb d_Mo_x_18 (by decide +kernel) ?_
  refine y_callS1 (V := .int (iI (zP (-600 ≤ by_ ∧ by_ ≤ 600)))) S (c_Mo_in l D aC by_ (-600) 600 (by omega) (by omega) (by omega)) t_Mo_123 (rm_ok (by decide) (by decide)) hK hN hP [] rfl rfl hl.1 rfl (Nat.le_of_ble_eq_true rfl) d_Mo_x_21 ⟨Nat.zero_le _, Nat.zero_le _⟩ ?_
  refine x_ifneP (tgt := 31) hx hb d_Mo_x_24 (by decide) (fun c_24 => ?_) (fun c_24 => ?_)
  · refine lv_iconst (v := iI 0) hx hb d_Mo_x_31 rfl ?_
    refine lv_iconst (v := iI 1) hx hb d_Mo_x_32 rfl ?_
    refine x_callV1F (V := .int (iI (zP (fE 0 0 1 ≠ 0)))) S (c_Mo_fails l D aC b M 0 p2 0 1 (by omega) (by omega) (by omega)) t_Mo_112 (rm_ok (by decide) (by decide)) hK hN hP hD hS [0] [] rfl rfl (fun w9 hw => by obtain rfl := hw; exact ⟨rfl, Nat.le_of_ble_eq_true rfl⟩) 0 6 rfl rfl rfl hl.1 rfl (Nat.le_of_ble_eq_true rfl) d_Mo_x_33 ⟨Nat.zero_le _, Nat.zero_le _⟩ (fun w1 ws1 H locs e9 hw hP hD hS => ?_)
    obtain rfl := hw
    have e9 : ws1 = [(b 0, .inr (6, [.int (iI (fE 0 0 1)), .int (iI M.rw), .int (iI M.cn), .int (iI M.en), .int (iI M.pr), .double (dM M.ko (-3)), .ref (b 1), .ref (b 2), .ref (b 3), .ref (b 4), .ref (b 5), .ref (b 6), .ref (b 7), .ref (b 8), .ref (b 9), .ref (b 10), .ref (b 11), .ref (b 12), .ref (b 13), .ref (b 14), .ref (b 15), .int (iI p2), .ref (b 16), .ref (b 17), .ref (b 18), .ref (b 19), .ref (b 20), .ref (b 21), .ref (b 22)])), (b 8, eD aC 16 (dA M.kx M.xb))] := e9
    subst e9
    refine x_ifneP (tgt := 66) hx hb d_Mo_x_36 (by decide) (fun c_36 => (absurd c_36 (by decide))) (fun c_36 => ?_)
    refine lv_aload_n hx hb d_Mo_x_39 rfl (lv_at hl 0 rfl) ?_
    refine lv_iload_n hx hb d_Mo_x_40 rfl (lv_at hl 1 rfl) ?_
    refine lv_iconst (v := iI 0) hx hb d_Mo_x_41 rfl ?_
    refine lv_aload_n hx hb d_Mo_x_42 rfl (lv_at hl 0 rfl) ?_
    refine va_get (D := D) (ci := 6) (v := .int (iI M.cn)) (C := R_Mo) (T := F_Mo) (N := 29) hx hb hts i_Mo hown hK hP 0 rfl rfl 2 (by decide) (hts _ wf_Mo_130) (fun _ h9 => h9) rfl d_Mo_x_43 ?_
    refine lv_iconst (v := iI 1) hx hb d_Mo_x_46 rfl ?_
    refine x_isub hx hb d_Mo_x_47 ?_
    refine y_callS1 (V := .int (iI (zP (0 ≤ j ∧ j ≤ M.cn - 1)))) S (c_Mo_in l D aC j 0 (M.cn - 1) (by omega) (by omega) (by omega)) t_Mo_123 (rm_ok (by decide) (by decide)) hK hN hP [] rfl rfl hl.1 rfl (Nat.le_of_ble_eq_true rfl) d_Mo_x_48 ⟨Nat.zero_le _, Nat.zero_le _⟩ ?_
    refine x_ifneP (tgt := 58) hx hb d_Mo_x_51 (by decide) (fun c_51 => ?_) (fun c_51 => ?_)
    · refine lv_iconst (v := iI 0) hx hb d_Mo_x_58 rfl ?_
      refine lv_iconst (v := iI 2) hx hb d_Mo_x_59 rfl ?_
      refine x_callV1F (V := .int (iI (zP (fE (fE 0 0 1) 0 2 ≠ 0)))) S (c_Mo_fails l D aC b M (fE 0 0 1) p2 0 2 (by omega) (by omega) (by omega)) t_Mo_112 (rm_ok (by decide) (by decide)) hK hN hP hD hS [0] [] rfl rfl (fun w9 hw => by obtain rfl := hw; exact ⟨rfl, Nat.le_of_ble_eq_true rfl⟩) 0 6 rfl rfl rfl hl.1 rfl (Nat.le_of_ble_eq_true rfl) d_Mo_x_60 ⟨Nat.zero_le _, Nat.zero_le _⟩ (fun w1 ws1 H locs e9 hw hP hD hS => ?_)
      obtain rfl := hw
      have e9 : ws1 = [(b 0, .inr (6, [.int (iI (fE (fE 0 0 1) 0 2)), .int (iI M.rw), .int (iI M.cn), .int (iI M.en), .int (iI M.pr), .double (dM M.ko (-3)), .ref (b 1), .ref (b 2), .ref (b 3), .ref (b 4), .ref (b 5), .ref (b 6), .ref (b 7), .ref (b 8), .ref (b 9), .ref (b 10), .ref (b 11), .ref (b 12), .ref (b 13), .ref (b 14), .ref (b 15), .int (iI p2), .ref (b 16), .ref (b 17), .ref (b 18), .ref (b 19), .ref (b 20), .ref (b 21), .ref (b 22)])), (b 8, eD aC 16 (dA M.kx M.xb))] := e9
      subst e9
      refine x_ifeqP (tgt := 67) hx hb d_Mo_x_63 (by decide) (fun c_63 => ?_) (fun c_63 => (absurd c_63 (by decide)))
      refine lv_aload_n hx hb d_Mo_x_67 rfl (lv_at hl 0 rfl) ?_
      refine va_get (D := D) (ci := 6) (v := .ref (b 8)) (C := R_Mo) (T := F_Mo) (N := 29) hx hb hts i_Mo hown hK hP 0 rfl rfl 13 (by decide) (hts _ wf_Mo_31) (fun _ h9 => h9) rfl d_Mo_x_68 ?_
      refine lv_iload_n hx hb d_Mo_x_71 rfl (lv_at hl 1 rfl) ?_
      refine lv_dload_n hx hb d_Mo_x_72 rfl (lv_at hl 2 rfl) ?_
      refine y_callS1 (V := .double (dM k (-3))) S (c_Mo_given l D aC k (-3) (by omega) (by omega)) t_Mo_116 (rm_ok (by decide) (by decide)) hK hN hP [] rfl rfl hl.1 rfl (Nat.le_of_ble_eq_true rfl) d_Mo_x_73 ⟨Nat.zero_le _, Nat.zero_le _⟩ ?_
      refine lv_iload hx hb d_Mo_x_76 (lv_at hl 3 rfl) ?_
      refine y_callS1 (V := .double (dM 1 by_)) S (c_Mo_power l D aC by_ (by omega)) t_Mo_104 (rm_ok (by decide) (by decide)) hK hN hP [] rfl rfl hl.1 rfl (Nat.le_of_ble_eq_true rfl) d_Mo_x_78 ⟨Nat.zero_le _, Nat.zero_le _⟩ ?_
      refine x_dmul1 hx hb d_Mo_x_81 (by unfold dOk; omega) (by unfold dOk; omega) (by unfold dOk; omega) ?_
      refine x_dast hx hb hK hP hD hS 1 rfl (by omega) (by decide) d_Mo_x_82 (fun H locs hP hD hS => ?_)
      rw [dA_upd] at hP hD
      have hP : va_P D CL [(b 0, .inr (6, [.int (iI (fE (fE 0 0 1) 0 2)), .int (iI M.rw), .int (iI M.cn), .int (iI M.en), .int (iI M.pr), .double (dM M.ko (-3)), .ref (b 1), .ref (b 2), .ref (b 3), .ref (b 4), .ref (b 5), .ref (b 6), .ref (b 7), .ref (b 8), .ref (b 9), .ref (b 10), .ref (b 11), .ref (b 12), .ref (b 13), .ref (b 14), .ref (b 15), .int (iI p2), .ref (b 16), .ref (b 17), .ref (b 18), .ref (b 19), .ref (b 20), .ref (b 21), .ref (b 22)])), (b 8, eD aC 16 (dA (updI M.kx j k) (updI M.xb j ((-3) + by_))))] H := hP
      have hD : va_D (aW [(b 0, .inr (6, [.int (iI er), .int (iI M.rw), .int (iI M.cn), .int (iI M.en), .int (iI M.pr), .double (dM M.ko (-3)), .ref (b 1), .ref (b 2), .ref (b 3), .ref (b 4), .ref (b 5), .ref (b 6), .ref (b 7), .ref (b 8), .ref (b 9), .ref (b 10), .ref (b 11), .ref (b 12), .ref (b 13), .ref (b 14), .ref (b 15), .int (iI p2), .ref (b 16), .ref (b 17), .ref (b 18), .ref (b 19), .ref (b 20), .ref (b 21), .ref (b 22)])), (b 8, eD aC 16 (dA M.kx M.xb))]) [(b 0, .inr (6, [.int (iI (fE (fE 0 0 1) 0 2)), .int (iI M.rw), .int (iI M.cn), .int (iI M.en), .int (iI M.pr), .double (dM M.ko (-3)), .ref (b 1), .ref (b 2), .ref (b 3), .ref (b 4), .ref (b 5), .ref (b 6), .ref (b 7), .ref (b 8), .ref (b 9), .ref (b 10), .ref (b 11), .ref (b 12), .ref (b 13), .ref (b 14), .ref (b 15), .int (iI p2), .ref (b 16), .ref (b 17), .ref (b 18), .ref (b 19), .ref (b 20), .ref (b 21), .ref (b 22)])), (b 8, eD aC 16 (dA (updI M.kx j k) (updI M.xb j ((-3) + by_))))] := hD
      exact x_vret hx hb hr hlocks hQ (⟨rfl, Or.inr (Or.inr ⟨by omega, by omega, show [(b 0, .inr (6, [.int (iI (fE (fE 0 0 1) 0 2)), .int (iI M.rw), .int (iI M.cn), .int (iI M.en), .int (iI M.pr), .double (dM M.ko (-3)), .ref (b 1), .ref (b 2), .ref (b 3), .ref (b 4), .ref (b 5), .ref (b 6), .ref (b 7), .ref (b 8), .ref (b 9), .ref (b 10), .ref (b 11), .ref (b 12), .ref (b 13), .ref (b 14), .ref (b 15), .int (iI p2), .ref (b 16), .ref (b 17), .ref (b 18), .ref (b 19), .ref (b 20), .ref (b 21), .ref (b 22)])), (b 8, eD aC 16 (dA (updI M.kx j k) (updI M.xb j ((-3) + by_))))] = _ from rfl⟩)⟩) rfl hP hS d_Mo_x_83
    · refine lv_iconst (v := iI 1) hx hb d_Mo_x_54 rfl ?_
      refine lv_goto (tgt := 59) hx hb d_Mo_x_55 (by decide) ?_
      refine lv_iconst (v := iI 2) hx hb d_Mo_x_59 rfl ?_
      refine x_callV1F (V := .int (iI (zP (fE (fE 0 0 1) 1 2 ≠ 0)))) S (c_Mo_fails l D aC b M (fE 0 0 1) p2 1 2 (by omega) (by omega) (by omega)) t_Mo_112 (rm_ok (by decide) (by decide)) hK hN hP hD hS [0] [] rfl rfl (fun w9 hw => by obtain rfl := hw; exact ⟨rfl, Nat.le_of_ble_eq_true rfl⟩) 0 6 rfl rfl rfl hl.1 rfl (Nat.le_of_ble_eq_true rfl) d_Mo_x_60 ⟨Nat.zero_le _, Nat.zero_le _⟩ (fun w1 ws1 H locs e9 hw hP hD hS => ?_)
      obtain rfl := hw
      have e9 : ws1 = [(b 0, .inr (6, [.int (iI (fE (fE 0 0 1) 1 2)), .int (iI M.rw), .int (iI M.cn), .int (iI M.en), .int (iI M.pr), .double (dM M.ko (-3)), .ref (b 1), .ref (b 2), .ref (b 3), .ref (b 4), .ref (b 5), .ref (b 6), .ref (b 7), .ref (b 8), .ref (b 9), .ref (b 10), .ref (b 11), .ref (b 12), .ref (b 13), .ref (b 14), .ref (b 15), .int (iI p2), .ref (b 16), .ref (b 17), .ref (b 18), .ref (b 19), .ref (b 20), .ref (b 21), .ref (b 22)])), (b 8, eD aC 16 (dA M.kx M.xb))] := e9
      subst e9
      refine x_ifeqP (tgt := 67) hx hb d_Mo_x_63 (by decide) (fun c_63 => (absurd (by decide) c_63)) (fun c_63 => ?_)
      exact x_vret hx hb hr hlocks hQ (⟨rfl, Or.inr (Or.inl ⟨by omega, by omega, show [(b 0, .inr (6, [.int (iI (fE (fE 0 0 1) 1 2)), .int (iI M.rw), .int (iI M.cn), .int (iI M.en), .int (iI M.pr), .double (dM M.ko (-3)), .ref (b 1), .ref (b 2), .ref (b 3), .ref (b 4), .ref (b 5), .ref (b 6), .ref (b 7), .ref (b 8), .ref (b 9), .ref (b 10), .ref (b 11), .ref (b 12), .ref (b 13), .ref (b 14), .ref (b 15), .int (iI p2), .ref (b 16), .ref (b 17), .ref (b 18), .ref (b 19), .ref (b 20), .ref (b 21), .ref (b 22)])), (b 8, eD aC 16 (dA M.kx M.xb))] = _ from rfl⟩)⟩) rfl hP hS d_Mo_x_66
  · refine lv_iconst (v := iI 1) hx hb d_Mo_x_27 rfl ?_
    refine lv_goto (tgt := 32) hx hb d_Mo_x_28 (by decide) ?_
    refine lv_iconst (v := iI 1) hx hb d_Mo_x_32 rfl ?_
    refine x_callV1F (V := .int (iI (zP (fE 0 1 1 ≠ 0)))) S (c_Mo_fails l D aC b M 0 p2 1 1 (by omega) (by omega) (by omega)) t_Mo_112 (rm_ok (by decide) (by decide)) hK hN hP hD hS [0] [] rfl rfl (fun w9 hw => by obtain rfl := hw; exact ⟨rfl, Nat.le_of_ble_eq_true rfl⟩) 0 6 rfl rfl rfl hl.1 rfl (Nat.le_of_ble_eq_true rfl) d_Mo_x_33 ⟨Nat.zero_le _, Nat.zero_le _⟩ (fun w1 ws1 H locs e9 hw hP hD hS => ?_)
    obtain rfl := hw
    have e9 : ws1 = [(b 0, .inr (6, [.int (iI (fE 0 1 1)), .int (iI M.rw), .int (iI M.cn), .int (iI M.en), .int (iI M.pr), .double (dM M.ko (-3)), .ref (b 1), .ref (b 2), .ref (b 3), .ref (b 4), .ref (b 5), .ref (b 6), .ref (b 7), .ref (b 8), .ref (b 9), .ref (b 10), .ref (b 11), .ref (b 12), .ref (b 13), .ref (b 14), .ref (b 15), .int (iI p2), .ref (b 16), .ref (b 17), .ref (b 18), .ref (b 19), .ref (b 20), .ref (b 21), .ref (b 22)])), (b 8, eD aC 16 (dA M.kx M.xb))] := e9
    subst e9
    refine x_ifneP (tgt := 66) hx hb d_Mo_x_36 (by decide) (fun c_36 => ?_) (fun c_36 => (absurd (by decide) c_36))
    exact x_vret hx hb hr hlocks hQ (⟨rfl, Or.inl ⟨by omega, show [(b 0, .inr (6, [.int (iI (fE 0 1 1)), .int (iI M.rw), .int (iI M.cn), .int (iI M.en), .int (iI M.pr), .double (dM M.ko (-3)), .ref (b 1), .ref (b 2), .ref (b 3), .ref (b 4), .ref (b 5), .ref (b 6), .ref (b 7), .ref (b 8), .ref (b 9), .ref (b 10), .ref (b 11), .ref (b 12), .ref (b 13), .ref (b 14), .ref (b 15), .int (iI p2), .ref (b 16), .ref (b 17), .ref (b 18), .ref (b 19), .ref (b 20), .ref (b 21), .ref (b 22)])), (b 8, eD aC 16 (dA M.kx M.xb))] = _ from rfl⟩⟩) rfl hP hS d_Mo_x_66
set_option maxHeartbeats 4000000 in
set_option maxRecDepth 100000 in
theorem c_Mo_y (l : Launch) (D : va_G) (aC : Nat → ClassId) (b : Nat → Nat) (M : MS) (hM : MI M) (er p2 : Int) (j k : Int) (hj : -2147483648 ≤ j ∧ j < 2147483648) (hk : -4294967296 < k ∧ k < 4294967296) (by_ : Int) (hby : -2147483648 ≤ by_ ∧ by_ < 2147483648) : CT l D aC y_Mo_y (rd 2 44) [.ref (b 0), .int (iI j), .double (dM k (-3)), .int (iI by_)] [(b 0, .inr (6, [.int (iI er), .int (iI M.rw), .int (iI M.cn), .int (iI M.en), .int (iI M.pr), .double (dM M.ko (-3)), .ref (b 1), .ref (b 2), .ref (b 3), .ref (b 4), .ref (b 5), .ref (b 6), .ref (b 7), .ref (b 8), .ref (b 9), .ref (b 10), .ref (b 11), .ref (b 12), .ref (b 13), .ref (b 14), .ref (b 15), .int (iI p2), .ref (b 16), .ref (b 17), .ref (b 18), .ref (b 19), .ref (b 20), .ref (b 21), .ref (b 22)])), (b 9, eD aC 12 (dA M.ky M.yb))] (fun v w => v = none ∧ ((¬ (-600 ≤ by_ ∧ by_ ≤ 600) ∧ w = [(b 0, .inr (6, [.int (iI 1), .int (iI M.rw), .int (iI M.cn), .int (iI M.en), .int (iI M.pr), .double (dM M.ko (-3)), .ref (b 1), .ref (b 2), .ref (b 3), .ref (b 4), .ref (b 5), .ref (b 6), .ref (b 7), .ref (b 8), .ref (b 9), .ref (b 10), .ref (b 11), .ref (b 12), .ref (b 13), .ref (b 14), .ref (b 15), .int (iI p2), .ref (b 16), .ref (b 17), .ref (b 18), .ref (b 19), .ref (b 20), .ref (b 21), .ref (b 22)])), (b 9, eD aC 12 (dA M.ky M.yb))]) ∨ ((-600 ≤ by_ ∧ by_ ≤ 600) ∧ ¬ (0 ≤ j ∧ j < M.rw) ∧ w = [(b 0, .inr (6, [.int (iI 2), .int (iI M.rw), .int (iI M.cn), .int (iI M.en), .int (iI M.pr), .double (dM M.ko (-3)), .ref (b 1), .ref (b 2), .ref (b 3), .ref (b 4), .ref (b 5), .ref (b 6), .ref (b 7), .ref (b 8), .ref (b 9), .ref (b 10), .ref (b 11), .ref (b 12), .ref (b 13), .ref (b 14), .ref (b 15), .int (iI p2), .ref (b 16), .ref (b 17), .ref (b 18), .ref (b 19), .ref (b 20), .ref (b 21), .ref (b 22)])), (b 9, eD aC 12 (dA M.ky M.yb))]) ∨ ((-600 ≤ by_ ∧ by_ ≤ 600) ∧ (0 ≤ j ∧ j < M.rw) ∧ w = [(b 0, .inr (6, [.int (iI 0), .int (iI M.rw), .int (iI M.cn), .int (iI M.en), .int (iI M.pr), .double (dM M.ko (-3)), .ref (b 1), .ref (b 2), .ref (b 3), .ref (b 4), .ref (b 5), .ref (b 6), .ref (b 7), .ref (b 8), .ref (b 9), .ref (b 10), .ref (b 11), .ref (b 12), .ref (b 13), .ref (b 14), .ref (b 15), .int (iI p2), .ref (b 16), .ref (b 17), .ref (b 18), .ref (b 19), .ref (b 20), .ref (b 21), .ref (b 22)])), (b 9, eD aC 12 (dA (updI M.ky j k) (updI M.yb j (-3 + by_))))]))) := by
  refine CT.of (cc := b_Mo_y) (maxL := 5) (ret := none) (by decide +kernel) k_Mo_y (Nat.le_of_ble_eq_true rfl) ?_
  intro p e s m below meth c Q S hr hlocks hQ hK hN hP hD hS ls hl
  obtain ⟨hx, hb, hml, hown, hts⟩ := id S
  have hl : lv_has ls 5 [(0, .ref (b 0)), (1, .int (iI j)), (2, .double (dM k (-3))), (4, .int (iI by_))] := hl
  have hrw := hM.rw
  have hcn := hM.cn
  refine lv_aload_n hx hb d_Mo_y_0 rfl (lv_at hl 0 rfl) ?_
  refine lv_iconst (v := iI 0) hx hb d_Mo_y_1 rfl ?_
  refine va_put (D := D) (ci := 6) (v := .int (iI 0)) (ty := .int) (C := R_Mo) (T := F_Mo) (N := 29) hx hb hts i_Mo t_Mo t_Mo_ok n_Mo hown hK hP hD hS 0 rfl rfl 0 (by decide) (hts _ wf_Mo_78) (fun _ h9 => h9) rfl (by decide +kernel) rfl rfl (Nat.le_of_ble_eq_true rfl) d_Mo_y_2 (fun H locs hP hD hS => ?_)
  have hP : va_P D CL [(b 0, .inr (6, [.int (iI 0), .int (iI M.rw), .int (iI M.cn), .int (iI M.en), .int (iI M.pr), .double (dM M.ko (-3)), .ref (b 1), .ref (b 2), .ref (b 3), .ref (b 4), .ref (b 5), .ref (b 6), .ref (b 7), .ref (b 8), .ref (b 9), .ref (b 10), .ref (b 11), .ref (b 12), .ref (b 13), .ref (b 14), .ref (b 15), .int (iI p2), .ref (b 16), .ref (b 17), .ref (b 18), .ref (b 19), .ref (b 20), .ref (b 21), .ref (b 22)])), (b 9, eD aC 12 (dA M.ky M.yb))] H := hP
  have hD : va_D (aW [(b 0, .inr (6, [.int (iI er), .int (iI M.rw), .int (iI M.cn), .int (iI M.en), .int (iI M.pr), .double (dM M.ko (-3)), .ref (b 1), .ref (b 2), .ref (b 3), .ref (b 4), .ref (b 5), .ref (b 6), .ref (b 7), .ref (b 8), .ref (b 9), .ref (b 10), .ref (b 11), .ref (b 12), .ref (b 13), .ref (b 14), .ref (b 15), .int (iI p2), .ref (b 16), .ref (b 17), .ref (b 18), .ref (b 19), .ref (b 20), .ref (b 21), .ref (b 22)])), (b 9, eD aC 12 (dA M.ky M.yb))]) [(b 0, .inr (6, [.int (iI 0), .int (iI M.rw), .int (iI M.cn), .int (iI M.en), .int (iI M.pr), .double (dM M.ko (-3)), .ref (b 1), .ref (b 2), .ref (b 3), .ref (b 4), .ref (b 5), .ref (b 6), .ref (b 7), .ref (b 8), .ref (b 9), .ref (b 10), .ref (b 11), .ref (b 12), .ref (b 13), .ref (b 14), .ref (b 15), .int (iI p2), .ref (b 16), .ref (b 17), .ref (b 18), .ref (b 19), .ref (b 20), .ref (b 21), .ref (b 22)])), (b 9, eD aC 12 (dA M.ky M.yb))] := hD
  refine lv_aload_n hx hb d_Mo_y_5 rfl (lv_at hl 0 rfl) ?_
  refine lv_dload_n hx hb d_Mo_y_6 rfl (lv_at hl 2 rfl) ?_
  refine y_callS1 (V := .int (iI 1)) S (c_Mo_isNumber l D aC k (-3) (by omega) (by omega)) t_Mo_108 (rm_ok (by decide) (by decide)) hK hN hP [] rfl rfl hl.1 rfl (Nat.le_of_ble_eq_true rfl) d_Mo_y_7 ⟨Nat.zero_le _, Nat.zero_le _⟩ ?_
  refine x_if_eq (tgt := 27) hx hb d_Mo_y_10 (by decide) (by decide) (fun c_10 => (by exfalso; omega)) (fun c_10 => ?_)
  refine lv_iload hx hb d_Mo_y_13 (lv_at hl 3 rfl) ?_
  refine lv_sipush (v := iI (-600)) hx hb d_Mo_y_15 (by decide +kernel) ?_
  refine lv_sipush (v := iI 600) hx hb d_Mo_y_18 (by decide +kernel) ?_
  refine y_callS1 (V := .int (iI (zP (-600 ≤ by_ ∧ by_ ≤ 600)))) S (c_Mo_in l D aC by_ (-600) 600 (by omega) (by omega) (by omega)) t_Mo_123 (rm_ok (by decide) (by decide)) hK hN hP [] rfl rfl hl.1 rfl (Nat.le_of_ble_eq_true rfl) d_Mo_y_21 ⟨Nat.zero_le _, Nat.zero_le _⟩ ?_
  refine x_ifneP (tgt := 31) hx hb d_Mo_y_24 (by decide) (fun c_24 => ?_) (fun c_24 => ?_)
  · refine lv_iconst (v := iI 0) hx hb d_Mo_y_31 rfl ?_
    refine lv_iconst (v := iI 1) hx hb d_Mo_y_32 rfl ?_
    refine x_callV1F (V := .int (iI (zP (fE 0 0 1 ≠ 0)))) S (c_Mo_fails l D aC b M 0 p2 0 1 (by omega) (by omega) (by omega)) t_Mo_112 (rm_ok (by decide) (by decide)) hK hN hP hD hS [0] [] rfl rfl (fun w9 hw => by obtain rfl := hw; exact ⟨rfl, Nat.le_of_ble_eq_true rfl⟩) 0 6 rfl rfl rfl hl.1 rfl (Nat.le_of_ble_eq_true rfl) d_Mo_y_33 ⟨Nat.zero_le _, Nat.zero_le _⟩ (fun w1 ws1 H locs e9 hw hP hD hS => ?_)
    obtain rfl := hw
    have e9 : ws1 = [(b 0, .inr (6, [.int (iI (fE 0 0 1)), .int (iI M.rw), .int (iI M.cn), .int (iI M.en), .int (iI M.pr), .double (dM M.ko (-3)), .ref (b 1), .ref (b 2), .ref (b 3), .ref (b 4), .ref (b 5), .ref (b 6), .ref (b 7), .ref (b 8), .ref (b 9), .ref (b 10), .ref (b 11), .ref (b 12), .ref (b 13), .ref (b 14), .ref (b 15), .int (iI p2), .ref (b 16), .ref (b 17), .ref (b 18), .ref (b 19), .ref (b 20), .ref (b 21), .ref (b 22)])), (b 9, eD aC 12 (dA M.ky M.yb))] := e9
    subst e9
    refine x_ifneP (tgt := 66) hx hb d_Mo_y_36 (by decide) (fun c_36 => (absurd c_36 (by decide))) (fun c_36 => ?_)
    refine lv_aload_n hx hb d_Mo_y_39 rfl (lv_at hl 0 rfl) ?_
    refine lv_iload_n hx hb d_Mo_y_40 rfl (lv_at hl 1 rfl) ?_
    refine lv_iconst (v := iI 0) hx hb d_Mo_y_41 rfl ?_
    refine lv_aload_n hx hb d_Mo_y_42 rfl (lv_at hl 0 rfl) ?_
    refine va_get (D := D) (ci := 6) (v := .int (iI M.rw)) (C := R_Mo) (T := F_Mo) (N := 29) hx hb hts i_Mo hown hK hP 0 rfl rfl 1 (by decide) (hts _ wf_Mo_127) (fun _ h9 => h9) rfl d_Mo_y_43 ?_
    refine lv_iconst (v := iI 1) hx hb d_Mo_y_46 rfl ?_
    refine x_isub hx hb d_Mo_y_47 ?_
    refine y_callS1 (V := .int (iI (zP (0 ≤ j ∧ j ≤ M.rw - 1)))) S (c_Mo_in l D aC j 0 (M.rw - 1) (by omega) (by omega) (by omega)) t_Mo_123 (rm_ok (by decide) (by decide)) hK hN hP [] rfl rfl hl.1 rfl (Nat.le_of_ble_eq_true rfl) d_Mo_y_48 ⟨Nat.zero_le _, Nat.zero_le _⟩ ?_
    refine x_ifneP (tgt := 58) hx hb d_Mo_y_51 (by decide) (fun c_51 => ?_) (fun c_51 => ?_)
    · refine lv_iconst (v := iI 0) hx hb d_Mo_y_58 rfl ?_
      refine lv_iconst (v := iI 2) hx hb d_Mo_y_59 rfl ?_
      refine x_callV1F (V := .int (iI (zP (fE (fE 0 0 1) 0 2 ≠ 0)))) S (c_Mo_fails l D aC b M (fE 0 0 1) p2 0 2 (by omega) (by omega) (by omega)) t_Mo_112 (rm_ok (by decide) (by decide)) hK hN hP hD hS [0] [] rfl rfl (fun w9 hw => by obtain rfl := hw; exact ⟨rfl, Nat.le_of_ble_eq_true rfl⟩) 0 6 rfl rfl rfl hl.1 rfl (Nat.le_of_ble_eq_true rfl) d_Mo_y_60 ⟨Nat.zero_le _, Nat.zero_le _⟩ (fun w1 ws1 H locs e9 hw hP hD hS => ?_)
      obtain rfl := hw
      have e9 : ws1 = [(b 0, .inr (6, [.int (iI (fE (fE 0 0 1) 0 2)), .int (iI M.rw), .int (iI M.cn), .int (iI M.en), .int (iI M.pr), .double (dM M.ko (-3)), .ref (b 1), .ref (b 2), .ref (b 3), .ref (b 4), .ref (b 5), .ref (b 6), .ref (b 7), .ref (b 8), .ref (b 9), .ref (b 10), .ref (b 11), .ref (b 12), .ref (b 13), .ref (b 14), .ref (b 15), .int (iI p2), .ref (b 16), .ref (b 17), .ref (b 18), .ref (b 19), .ref (b 20), .ref (b 21), .ref (b 22)])), (b 9, eD aC 12 (dA M.ky M.yb))] := e9
      subst e9
      refine x_ifeqP (tgt := 67) hx hb d_Mo_y_63 (by decide) (fun c_63 => ?_) (fun c_63 => (absurd c_63 (by decide)))
      refine lv_aload_n hx hb d_Mo_y_67 rfl (lv_at hl 0 rfl) ?_
      refine va_get (D := D) (ci := 6) (v := .ref (b 9)) (C := R_Mo) (T := F_Mo) (N := 29) hx hb hts i_Mo hown hK hP 0 rfl rfl 14 (by decide) (hts _ wf_Mo_34) (fun _ h9 => h9) rfl d_Mo_y_68 ?_
      refine lv_iload_n hx hb d_Mo_y_71 rfl (lv_at hl 1 rfl) ?_
      refine lv_dload_n hx hb d_Mo_y_72 rfl (lv_at hl 2 rfl) ?_
      refine y_callS1 (V := .double (dM k (-3))) S (c_Mo_given l D aC k (-3) (by omega) (by omega)) t_Mo_116 (rm_ok (by decide) (by decide)) hK hN hP [] rfl rfl hl.1 rfl (Nat.le_of_ble_eq_true rfl) d_Mo_y_73 ⟨Nat.zero_le _, Nat.zero_le _⟩ ?_
      refine lv_iload hx hb d_Mo_y_76 (lv_at hl 3 rfl) ?_
      refine y_callS1 (V := .double (dM 1 by_)) S (c_Mo_power l D aC by_ (by omega)) t_Mo_104 (rm_ok (by decide) (by decide)) hK hN hP [] rfl rfl hl.1 rfl (Nat.le_of_ble_eq_true rfl) d_Mo_y_78 ⟨Nat.zero_le _, Nat.zero_le _⟩ ?_
      refine x_dmul1 hx hb d_Mo_y_81 (by unfold dOk; omega) (by unfold dOk; omega) (by unfold dOk; omega) ?_
      refine x_dast hx hb hK hP hD hS 1 rfl (by omega) (by decide) d_Mo_y_82 (fun H locs hP hD hS => ?_)
      rw [dA_upd] at hP hD
      have hP : va_P D CL [(b 0, .inr (6, [.int (iI (fE (fE 0 0 1) 0 2)), .int (iI M.rw), .int (iI M.cn), .int (iI M.en), .int (iI M.pr), .double (dM M.ko (-3)), .ref (b 1), .ref (b 2), .ref (b 3), .ref (b 4), .ref (b 5), .ref (b 6), .ref (b 7), .ref (b 8), .ref (b 9), .ref (b 10), .ref (b 11), .ref (b 12), .ref (b 13), .ref (b 14), .ref (b 15), .int (iI p2), .ref (b 16), .ref (b 17), .ref (b 18), .ref (b 19), .ref (b 20), .ref (b 21), .ref (b 22)])), (b 9, eD aC 12 (dA (updI M.ky j k) (updI M.yb j ((-3) + by_))))] H := hP
      have hD : va_D (aW [(b 0, .inr (6, [.int (iI er), .int (iI M.rw), .int (iI M.cn), .int (iI M.en), .int (iI M.pr), .double (dM M.ko (-3)), .ref (b 1), .ref (b 2), .ref (b 3), .ref (b 4), .ref (b 5), .ref (b 6), .ref (b 7), .ref (b 8), .ref (b 9), .ref (b 10), .ref (b 11), .ref (b 12), .ref (b 13), .ref (b 14), .ref (b 15), .int (iI p2), .ref (b 16), .ref (b 17), .ref (b 18), .ref (b 19), .ref (b 20), .ref (b 21), .ref (b 22)])), (b 9, eD aC 12 (dA M.ky M.yb))]) [(b 0, .inr (6, [.int (iI (fE (fE 0 0 1) 0 2)), .int (iI M.rw), .int (iI M.cn), .int (iI M.en), .int (iI M.pr), .double (dM M.ko (-3)), .ref (b 1), .ref (b 2), .ref (b 3), .ref (b 4), .ref (b 5), .ref (b 6), .ref (b 7), .ref (b 8), .ref (b 9), .ref (b 10), .ref (b 11), .ref (b 12), .ref (b 13), .ref (b 14), .ref (b 15), .int (iI p2), .ref (b 16), .ref (b 17), .ref (b 18), .ref (b 19), .ref (b 20), .ref (b 21), .ref (b 22)])), (b 9, eD aC 12 (dA (updI M.ky j k) (updI M.yb j ((-3) + by_))))] := hD
      exact x_vret hx hb hr hlocks hQ (⟨rfl, Or.inr (Or.inr ⟨by omega, by omega, show [(b 0, .inr (6, [.int (iI (fE (fE 0 0 1) 0 2)), .int (iI M.rw), .int (iI M.cn), .int (iI M.en), .int (iI M.pr), .double (dM M.ko (-3)), .ref (b 1), .ref (b 2), .ref (b 3), .ref (b 4), .ref (b 5), .ref (b 6), .ref (b 7), .ref (b 8), .ref (b 9), .ref (b 10), .ref (b 11), .ref (b 12), .ref (b 13), .ref (b 14), .ref (b 15), .int (iI p2), .ref (b 16), .ref (b 17), .ref (b 18), .ref (b 19), .ref (b 20), .ref (b 21), .ref (b 22)])), (b 9, eD aC 12 (dA (updI M.ky j k) (updI M.yb j ((-3) + by_))))] = _ from rfl⟩)⟩) rfl hP hS d_Mo_y_83
    · refine lv_iconst (v := iI 1) hx hb d_Mo_y_54 rfl ?_
      refine lv_goto (tgt := 59) hx hb d_Mo_y_55 (by decide) ?_
      refine lv_iconst (v := iI 2) hx hb d_Mo_y_59 rfl ?_
      refine x_callV1F (V := .int (iI (zP (fE (fE 0 0 1) 1 2 ≠ 0)))) S (c_Mo_fails l D aC b M (fE 0 0 1) p2 1 2 (by omega) (by omega) (by omega)) t_Mo_112 (rm_ok (by decide) (by decide)) hK hN hP hD hS [0] [] rfl rfl (fun w9 hw => by obtain rfl := hw; exact ⟨rfl, Nat.le_of_ble_eq_true rfl⟩) 0 6 rfl rfl rfl hl.1 rfl (Nat.le_of_ble_eq_true rfl) d_Mo_y_60 ⟨Nat.zero_le _, Nat.zero_le _⟩ (fun w1 ws1 H locs e9 hw hP hD hS => ?_)
      obtain rfl := hw
      have e9 : ws1 = [(b 0, .inr (6, [.int (iI (fE (fE 0 0 1) 1 2)), .int (iI M.rw), .int (iI M.cn), .int (iI M.en), .int (iI M.pr), .double (dM M.ko (-3)), .ref (b 1), .ref (b 2), .ref (b 3), .ref (b 4), .ref (b 5), .ref (b 6), .ref (b 7), .ref (b 8), .ref (b 9), .ref (b 10), .ref (b 11), .ref (b 12), .ref (b 13), .ref (b 14), .ref (b 15), .int (iI p2), .ref (b 16), .ref (b 17), .ref (b 18), .ref (b 19), .ref (b 20), .ref (b 21), .ref (b 22)])), (b 9, eD aC 12 (dA M.ky M.yb))] := e9
      subst e9
      refine x_ifeqP (tgt := 67) hx hb d_Mo_y_63 (by decide) (fun c_63 => (absurd (by decide) c_63)) (fun c_63 => ?_)
      exact x_vret hx hb hr hlocks hQ (⟨rfl, Or.inr (Or.inl ⟨by omega, by omega, show [(b 0, .inr (6, [.int (iI (fE (fE 0 0 1) 1 2)), .int (iI M.rw), .int (iI M.cn), .int (iI M.en), .int (iI M.pr), .double (dM M.ko (-3)), .ref (b 1), .ref (b 2), .ref (b 3), .ref (b 4), .ref (b 5), .ref (b 6), .ref (b 7), .ref (b 8), .ref (b 9), .ref (b 10), .ref (b 11), .ref (b 12), .ref (b 13), .ref (b 14), .ref (b 15), .int (iI p2), .ref (b 16), .ref (b 17), .ref (b 18), .ref (b 19), .ref (b 20), .ref (b 21), .ref (b 22)])), (b 9, eD aC 12 (dA M.ky M.yb))] = _ from rfl⟩)⟩) rfl hP hS d_Mo_y_66
  · refine lv_iconst (v := iI 1) hx hb d_Mo_y_27 rfl ?_
    refine lv_goto (tgt := 32) hx hb d_Mo_y_28 (by decide) ?_
    refine lv_iconst (v := iI 1) hx hb d_Mo_y_32 rfl ?_
    refine x_callV1F (V := .int (iI (zP (fE 0 1 1 ≠ 0)))) S (c_Mo_fails l D aC b M 0 p2 1 1 (by omega) (by omega) (by omega)) t_Mo_112 (rm_ok (by decide) (by decide)) hK hN hP hD hS [0] [] rfl rfl (fun w9 hw => by obtain rfl := hw; exact ⟨rfl, Nat.le_of_ble_eq_true rfl⟩) 0 6 rfl rfl rfl hl.1 rfl (Nat.le_of_ble_eq_true rfl) d_Mo_y_33 ⟨Nat.zero_le _, Nat.zero_le _⟩ (fun w1 ws1 H locs e9 hw hP hD hS => ?_)
    obtain rfl := hw
    have e9 : ws1 = [(b 0, .inr (6, [.int (iI (fE 0 1 1)), .int (iI M.rw), .int (iI M.cn), .int (iI M.en), .int (iI M.pr), .double (dM M.ko (-3)), .ref (b 1), .ref (b 2), .ref (b 3), .ref (b 4), .ref (b 5), .ref (b 6), .ref (b 7), .ref (b 8), .ref (b 9), .ref (b 10), .ref (b 11), .ref (b 12), .ref (b 13), .ref (b 14), .ref (b 15), .int (iI p2), .ref (b 16), .ref (b 17), .ref (b 18), .ref (b 19), .ref (b 20), .ref (b 21), .ref (b 22)])), (b 9, eD aC 12 (dA M.ky M.yb))] := e9
    subst e9
    refine x_ifneP (tgt := 66) hx hb d_Mo_y_36 (by decide) (fun c_36 => ?_) (fun c_36 => (absurd (by decide) c_36))
    exact x_vret hx hb hr hlocks hQ (⟨rfl, Or.inl ⟨by omega, show [(b 0, .inr (6, [.int (iI (fE 0 1 1)), .int (iI M.rw), .int (iI M.cn), .int (iI M.en), .int (iI M.pr), .double (dM M.ko (-3)), .ref (b 1), .ref (b 2), .ref (b 3), .ref (b 4), .ref (b 5), .ref (b 6), .ref (b 7), .ref (b 8), .ref (b 9), .ref (b 10), .ref (b 11), .ref (b 12), .ref (b 13), .ref (b 14), .ref (b 15), .int (iI p2), .ref (b 16), .ref (b 17), .ref (b 18), .ref (b 19), .ref (b 20), .ref (b 21), .ref (b 22)])), (b 9, eD aC 12 (dA M.ky M.yb))] = _ from rfl⟩⟩) rfl hP hS d_Mo_y_66
