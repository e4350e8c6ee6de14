def okM (M : MS) (x k : Int) : Prop := (x = 5 → 0 ≤ k ∧ k < M.rw) ∧ (x = 6 ∨ x = 7 → 0 ≤ k ∧ k < M.cn)
set_option maxHeartbeats 4000000 in
set_option maxRecDepth 100000 in
theorem c_Mo_asked (l : Launch) (D : va_G) (aC : Nat → ClassId) (b : Nat → Nat) (M : MS) (hM : MI M) (p2 : Int) (x k : Int) (hxr : -2147483648 ≤ x ∧ x < 2147483648) (hk : -2147483648 ≤ k ∧ k < 2147483648) : CT l D aC y_Mo_asked (rd 1 22) [.ref (b 0), .int (iI x), .int (iI k)] [(b 0, .inr (6, [.int (iI 0), .int (iI M.rw), .int (iI M.cn), .int (iI M.en), .int (iI M.pr), .double (dM M.ko (-3)), .ref (b 1), .ref (b 2), .ref (b 3), .ref (b 4), .ref (b 5), .ref (b 6), .ref (b 7), .ref (b 8), .ref (b 9), .ref (b 10), .ref (b 11), .ref (b 12), .ref (b 13), .ref (b 14), .ref (b 15), .int (iI p2), .ref (b 16), .ref (b 17), .ref (b 18), .ref (b 19), .ref (b 20), .ref (b 21), .ref (b 22)]))] (fun v w => (¬ (0 ≤ x ∧ x ≤ 7) ∧ v = some (.int (iI 0)) ∧ w = [(b 0, .inr (6, [.int (iI 1), .int (iI M.rw), .int (iI M.cn), .int (iI M.en), .int (iI M.pr), .double (dM M.ko (-3)), .ref (b 1), .ref (b 2), .ref (b 3), .ref (b 4), .ref (b 5), .ref (b 6), .ref (b 7), .ref (b 8), .ref (b 9), .ref (b 10), .ref (b 11), .ref (b 12), .ref (b 13), .ref (b 14), .ref (b 15), .int (iI p2), .ref (b 16), .ref (b 17), .ref (b 18), .ref (b 19), .ref (b 20), .ref (b 21), .ref (b 22)]))]) ∨ ((0 ≤ x ∧ x ≤ 7) ∧ ¬ okM M x k ∧ v = some (.int (iI 0)) ∧ w = [(b 0, .inr (6, [.int (iI 2), .int (iI M.rw), .int (iI M.cn), .int (iI M.en), .int (iI M.pr), .double (dM M.ko (-3)), .ref (b 1), .ref (b 2), .ref (b 3), .ref (b 4), .ref (b 5), .ref (b 6), .ref (b 7), .ref (b 8), .ref (b 9), .ref (b 10), .ref (b 11), .ref (b 12), .ref (b 13), .ref (b 14), .ref (b 15), .int (iI p2), .ref (b 16), .ref (b 17), .ref (b 18), .ref (b 19), .ref (b 20), .ref (b 21), .ref (b 22)]))]) ∨ ((0 ≤ x ∧ x ≤ 7) ∧ okM M x k ∧ v = some (.int (iI 1)) ∧ w = [(b 0, .inr (6, [.int (iI 0), .int (iI M.rw), .int (iI M.cn), .int (iI M.en), .int (iI M.pr), .double (dM M.ko (-3)), .ref (b 1), .ref (b 2), .ref (b 3), .ref (b 4), .ref (b 5), .ref (b 6), .ref (b 7), .ref (b 8), .ref (b 9), .ref (b 10), .ref (b 11), .ref (b 12), .ref (b 13), .ref (b 14), .ref (b 15), .int (iI p2), .ref (b 16), .ref (b 17), .ref (b 18), .ref (b 19), .ref (b 20), .ref (b 21), .ref (b 22)]))])) := by
  refine CT.of (cc := b_Mo_asked) (maxL := 3) (ret := (some .boolean)) (by decide +kernel) k_Mo_asked (Nat.le_of_ble_eq_true rfl) ?_
  intro p e s m below meth c Q S hr hlocks hQ hK hN hP hD hS ls hl
  obtain ⟨hx, hb, hml, hown, hts⟩ := id S
  have hl : lv_has ls 3 [(0, .ref (b 0)), (1, .int (iI x)), (2, .int (iI k))] := hl
  have hrw := hM.rw
  have hcn := hM.cn
  refine lv_aload_n hx hb d_Mo_asked_0 rfl (lv_at hl 0 rfl) ?_
  refine lv_iload_n hx hb d_Mo_asked_1 rfl (lv_at hl 1 rfl) ?_
  refine lv_iconst (v := iI 0) hx hb d_Mo_asked_2 rfl ?_
  refine lv_bipush (v := iI 7) hx hb d_Mo_asked_3 (by decide +kernel) ?_
  refine y_callS1 (V := .int (iI (zP (0 ≤ x ∧ x ≤ 7)))) S (c_Mo_in l D aC x 0 7 (by omega) (by omega) (by omega)) t_Mo_123 (rm_ok (by decide) (by decide)) hK hN hP [] rfl rfl hl.1 rfl (Nat.le_of_ble_eq_true rfl) d_Mo_asked_5 ⟨Nat.zero_le _, Nat.zero_le _⟩ ?_
  refine x_ifneP (tgt := 15) hx hb d_Mo_asked_8 (by decide) (fun c_8 => ?_) (fun c_8 => ?_)
  · refine lv_iconst (v := iI 0) hx hb d_Mo_asked_15 rfl ?_
    refine lv_iconst (v := iI 1) hx hb d_Mo_asked_16 rfl ?_
    refine x_callV1F (V := .int (iI (zP (fE 0 0 1 ≠ 0)))) S (c_Mo_fails l D aC b M 0 p2 0 1 (by omega) (by omega) (by omega)) t_Mo_112 (rm_ok (by decide) (by decide)) hK hN hP hD hS [0] [] rfl rfl (fun w9 hw => by obtain rfl := hw; exact ⟨rfl, Nat.le_of_ble_eq_true rfl⟩) 0 6 rfl rfl rfl hl.1 rfl (Nat.le_of_ble_eq_true rfl) d_Mo_asked_17 ⟨Nat.zero_le _, Nat.zero_le _⟩ (fun w1 ws1 H locs e9 hw hP hD hS => ?_)
    obtain rfl := hw
    have e9 : ws1 = [(b 0, .inr (6, [.int (iI (fE 0 0 1)), .int (iI M.rw), .int (iI M.cn), .int (iI M.en), .int (iI M.pr), .double (dM M.ko (-3)), .ref (b 1), .ref (b 2), .ref (b 3), .ref (b 4), .ref (b 5), .ref (b 6), .ref (b 7), .ref (b 8), .ref (b 9), .ref (b 10), .ref (b 11), .ref (b 12), .ref (b 13), .ref (b 14), .ref (b 15), .int (iI p2), .ref (b 16), .ref (b 17), .ref (b 18), .ref (b 19), .ref (b 20), .ref (b 21), .ref (b 22)]))] := e9
    subst e9
    refine x_ifneP (tgt := 71) hx hb d_Mo_asked_20 (by decide) (fun c_20 => (absurd c_20 (by decide))) (fun c_20 => ?_)
    refine lv_aload_n hx hb d_Mo_asked_23 rfl (lv_at hl 0 rfl) ?_
    refine lv_iload_n hx hb d_Mo_asked_24 rfl (lv_at hl 1 rfl) ?_
    refine lv_iconst (v := iI 4) hx hb d_Mo_asked_25 rfl ?_
    refine x_icmp_le (tgt := 59) hx hb d_Mo_asked_26 (by decide) (by omega) (by omega) (fun c_26 => ?_) (fun c_26 => ?_)
    · refine lv_iconst (v := iI 0) hx hb d_Mo_asked_59 rfl ?_
      refine lv_iconst (v := iI 2) hx hb d_Mo_asked_60 rfl ?_
      refine x_callV1F (V := .int (iI (zP (fE (fE 0 0 1) 0 2 ≠ 0)))) S (c_Mo_fails l D aC b M (fE 0 0 1) p2 0 2 (by omega) (by omega) (by omega)) t_Mo_112 (rm_ok (by decide) (by decide)) hK hN hP hD hS [0] [] rfl rfl (fun w9 hw => by obtain rfl := hw; exact ⟨rfl, Nat.le_of_ble_eq_true rfl⟩) 0 6 rfl rfl rfl hl.1 rfl (Nat.le_of_ble_eq_true rfl) d_Mo_asked_61 ⟨Nat.zero_le _, Nat.zero_le _⟩ (fun w1 ws1 H locs e9 hw hP hD hS => ?_)
      obtain rfl := hw
      have e9 : ws1 = [(b 0, .inr (6, [.int (iI (fE (fE 0 0 1) 0 2)), .int (iI M.rw), .int (iI M.cn), .int (iI M.en), .int (iI M.pr), .double (dM M.ko (-3)), .ref (b 1), .ref (b 2), .ref (b 3), .ref (b 4), .ref (b 5), .ref (b 6), .ref (b 7), .ref (b 8), .ref (b 9), .ref (b 10), .ref (b 11), .ref (b 12), .ref (b 13), .ref (b 14), .ref (b 15), .int (iI p2), .ref (b 16), .ref (b 17), .ref (b 18), .ref (b 19), .ref (b 20), .ref (b 21), .ref (b 22)]))] := e9
      subst e9
      refine x_ifneP (tgt := 71) hx hb d_Mo_asked_64 (by decide) (fun c_64 => (absurd c_64 (by decide))) (fun c_64 => ?_)
      refine lv_iconst (v := iI 1) hx hb d_Mo_asked_67 rfl ?_
      refine lv_goto (tgt := 72) hx hb d_Mo_asked_68 (by decide) ?_
      exact x_zret hx hb hr (rfl) hlocks hQ (Or.inr (Or.inr ⟨by omega, by unfold okM; omega, rfl, show [(b 0, .inr (6, [.int (iI (fE (fE 0 0 1) 0 2)), .int (iI M.rw), .int (iI M.cn), .int (iI M.en), .int (iI M.pr), .double (dM M.ko (-3)), .ref (b 1), .ref (b 2), .ref (b 3), .ref (b 4), .ref (b 5), .ref (b 6), .ref (b 7), .ref (b 8), .ref (b 9), .ref (b 10), .ref (b 11), .ref (b 12), .ref (b 13), .ref (b 14), .ref (b 15), .int (iI p2), .ref (b 16), .ref (b 17), .ref (b 18), .ref (b 19), .ref (b 20), .ref (b 21), .ref (b 22)]))] = _ from rfl⟩)) rfl hP hS d_Mo_asked_72
    · refine lv_iload_n hx hb d_Mo_asked_29 rfl (lv_at hl 2 rfl) ?_
      refine lv_iconst (v := iI 0) hx hb d_Mo_asked_30 rfl ?_
      refine lv_iload_n hx hb d_Mo_asked_31 rfl (lv_at hl 1 rfl) ?_
      refine lv_iconst (v := iI 5) hx hb d_Mo_asked_32 rfl ?_
      refine x_icmp_ne (tgt := 43) hx hb d_Mo_asked_33 (by decide) (by omega) (by omega) (fun c_33 => ?_) (fun c_33 => ?_)
      · refine lv_aload_n hx hb d_Mo_asked_43 rfl (lv_at hl 0 rfl) ?_
        refine va_get (D := D) (ci := 6) (v := .int (iI M.cn)) (C := R_Mo) (T := F_Mo) (N := 29) hx hb hts i_Mo hown hK hP 0 rfl rfl 2 (by decide) (hts _ wf_Mo_130) (fun _ h9 => h9) rfl d_Mo_asked_44 ?_
        refine lv_iconst (v := iI 1) hx hb d_Mo_asked_47 rfl ?_
        refine x_isub hx hb d_Mo_asked_48 ?_
        refine y_callS1 (V := .int (iI (zP (0 ≤ k ∧ k ≤ M.cn - 1)))) S (c_Mo_in l D aC k 0 (M.cn - 1) (by omega) (by omega) (by omega)) t_Mo_123 (rm_ok (by decide) (by decide)) hK hN hP [] rfl rfl hl.1 rfl (Nat.le_of_ble_eq_true rfl) d_Mo_asked_49 ⟨Nat.zero_le _, Nat.zero_le _⟩ ?_
        refine x_ifneP (tgt := 59) hx hb d_Mo_asked_52 (by decide) (fun c_52 => ?_) (fun c_52 => ?_)
        · refine lv_iconst (v := iI 0) hx hb d_Mo_asked_59 rfl ?_
          refine lv_iconst (v := iI 2) hx hb d_Mo_asked_60 rfl ?_
          refine x_callV1F (V := .int (iI (zP (fE (fE 0 0 1) 0 2 ≠ 0)))) S (c_Mo_fails l D aC b M (fE 0 0 1) p2 0 2 (by omega) (by omega) (by omega)) t_Mo_112 (rm_ok (by decide) (by decide)) hK hN hP hD hS [0] [] rfl rfl (fun w9 hw => by obtain rfl := hw; exact ⟨rfl, Nat.le_of_ble_eq_true rfl⟩) 0 6 rfl rfl rfl hl.1 rfl (Nat.le_of_ble_eq_true rfl) d_Mo_asked_61 ⟨Nat.zero_le _, Nat.zero_le _⟩ (fun w1 ws1 H locs e9 hw hP hD hS => ?_)
          obtain rfl := hw
          have e9 : ws1 = [(b 0, .inr (6, [.int (iI (fE (fE 0 0 1) 0 2)), .int (iI M.rw), .int (iI M.cn), .int (iI M.en), .int (iI M.pr), .double (dM M.ko (-3)), .ref (b 1), .ref (b 2), .ref (b 3), .ref (b 4), .ref (b 5), .ref (b 6), .ref (b 7), .ref (b 8), .ref (b 9), .ref (b 10), .ref (b 11), .ref (b 12), .ref (b 13), .ref (b 14), .ref (b 15), .int (iI p2), .ref (b 16), .ref (b 17), .ref (b 18), .ref (b 19), .ref (b 20), .ref (b 21), .ref (b 22)]))] := e9
          subst e9
          refine x_ifneP (tgt := 71) hx hb d_Mo_asked_64 (by decide) (fun c_64 => (absurd c_64 (by decide))) (fun c_64 => ?_)
          refine lv_iconst (v := iI 1) hx hb d_Mo_asked_67 rfl ?_
          refine lv_goto (tgt := 72) hx hb d_Mo_asked_68 (by decide) ?_
          exact x_zret hx hb hr (rfl) hlocks hQ (Or.inr (Or.inr ⟨by omega, by unfold okM; omega, rfl, show [(b 0, .inr (6, [.int (iI (fE (fE 0 0 1) 0 2)), .int (iI M.rw), .int (iI M.cn), .int (iI M.en), .int (iI M.pr), .double (dM M.ko (-3)), .ref (b 1), .ref (b 2), .ref (b 3), .ref (b 4), .ref (b 5), .ref (b 6), .ref (b 7), .ref (b 8), .ref (b 9), .ref (b 10), .ref (b 11), .ref (b 12), .ref (b 13), .ref (b 14), .ref (b 15), .int (iI p2), .ref (b 16), .ref (b 17), .ref (b 18), .ref (b 19), .ref (b 20), .ref (b 21), .ref (b 22)]))] = _ from rfl⟩)) rfl hP hS d_Mo_asked_72
        · refine lv_iconst (v := iI 1) hx hb d_Mo_asked_55 rfl ?_
          refine lv_goto (tgt := 60) hx hb d_Mo_asked_56 (by decide) ?_
          refine lv_iconst (v := iI 2) hx hb d_Mo_asked_60 rfl ?_
          refine x_callV1F (V := .int (iI (zP (fE (fE 0 0 1) 1 2 ≠ 0)))) S (c_Mo_fails l D aC b M (fE 0 0 1) p2 1 2 (by omega) (by omega) (by omega)) t_Mo_112 (rm_ok (by decide) (by decide)) hK hN hP hD hS [0] [] rfl rfl (fun w9 hw => by obtain rfl := hw; exact ⟨rfl, Nat.le_of_ble_eq_true rfl⟩) 0 6 rfl rfl rfl hl.1 rfl (Nat.le_of_ble_eq_true rfl) d_Mo_asked_61 ⟨Nat.zero_le _, Nat.zero_le _⟩ (fun w1 ws1 H locs e9 hw hP hD hS => ?_)
          obtain rfl := hw
          have e9 : ws1 = [(b 0, .inr (6, [.int (iI (fE (fE 0 0 1) 1 2)), .int (iI M.rw), .int (iI M.cn), .int (iI M.en), .int (iI M.pr), .double (dM M.ko (-3)), .ref (b 1), .ref (b 2), .ref (b 3), .ref (b 4), .ref (b 5), .ref (b 6), .ref (b 7), .ref (b 8), .ref (b 9), .ref (b 10), .ref (b 11), .ref (b 12), .ref (b 13), .ref (b 14), .ref (b 15), .int (iI p2), .ref (b 16), .ref (b 17), .ref (b 18), .ref (b 19), .ref (b 20), .ref (b 21), .ref (b 22)]))] := e9
          subst e9
          refine x_ifneP (tgt := 71) hx hb d_Mo_asked_64 (by decide) (fun c_64 => ?_) (fun c_64 => (absurd (by decide) c_64))
          refine lv_iconst (v := iI 0) hx hb d_Mo_asked_71 rfl ?_
          exact x_zret hx hb hr (rfl) hlocks hQ (Or.inr (Or.inl ⟨by omega, by unfold okM; omega, rfl, show [(b 0, .inr (6, [.int (iI (fE (fE 0 0 1) 1 2)), .int (iI M.rw), .int (iI M.cn), .int (iI M.en), .int (iI M.pr), .double (dM M.ko (-3)), .ref (b 1), .ref (b 2), .ref (b 3), .ref (b 4), .ref (b 5), .ref (b 6), .ref (b 7), .ref (b 8), .ref (b 9), .ref (b 10), .ref (b 11), .ref (b 12), .ref (b 13), .ref (b 14), .ref (b 15), .int (iI p2), .ref (b 16), .ref (b 17), .ref (b 18), .ref (b 19), .ref (b 20), .ref (b 21), .ref (b 22)]))] = _ from rfl⟩)) rfl hP hS d_Mo_asked_72
      · refine lv_aload_n hx hb d_Mo_asked_36 rfl (lv_at hl 0 rfl) ?_
        refine va_get (D := D) (ci := 6) (v := .int (iI M.rw)) (C := R_Mo) (T := F_Mo) (N := 29) hx hb hts i_Mo hown hK hP 0 rfl rfl 1 (by decide) (hts _ wf_Mo_127) (fun _ h9 => h9) rfl d_Mo_asked_37 ?_
        refine lv_goto (tgt := 47) hx hb d_Mo_asked_40 (by decide) ?_
        refine lv_iconst (v := iI 1) hx hb d_Mo_asked_47 rfl ?_
        refine x_isub hx hb d_Mo_asked_48 ?_
        refine y_callS1 (V := .int (iI (zP (0 ≤ k ∧ k ≤ M.rw - 1)))) S (c_Mo_in l D aC k 0 (M.rw - 1) (by omega) (by omega) (by omega)) t_Mo_123 (rm_ok (by decide) (by decide)) hK hN hP [] rfl rfl hl.1 rfl (Nat.le_of_ble_eq_true rfl) d_Mo_asked_49 ⟨Nat.zero_le _, Nat.zero_le _⟩ ?_
        refine x_ifneP (tgt := 59) hx hb d_Mo_asked_52 (by decide) (fun c_52 => ?_) (fun c_52 => ?_)
        · refine lv_iconst (v := iI 0) hx hb d_Mo_asked_59 rfl ?_
          refine lv_iconst (v := iI 2) hx hb d_Mo_asked_60 rfl ?_
          refine x_callV1F (V := .int (iI (zP (fE (fE 0 0 1) 0 2 ≠ 0)))) S (c_Mo_fails l D aC b M (fE 0 0 1) p2 0 2 (by omega) (by omega) (by omega)) t_Mo_112 (rm_ok (by decide) (by decide)) hK hN hP hD hS [0] [] rfl rfl (fun w9 hw => by obtain rfl := hw; exact ⟨rfl, Nat.le_of_ble_eq_true rfl⟩) 0 6 rfl rfl rfl hl.1 rfl (Nat.le_of_ble_eq_true rfl) d_Mo_asked_61 ⟨Nat.zero_le _, Nat.zero_le _⟩ (fun w1 ws1 H locs e9 hw hP hD hS => ?_)
          obtain rfl := hw
          have e9 : ws1 = [(b 0, .inr (6, [.int (iI (fE (fE 0 0 1) 0 2)), .int (iI M.rw), .int (iI M.cn), .int (iI M.en), .int (iI M.pr), .double (dM M.ko (-3)), .ref (b 1), .ref (b 2), .ref (b 3), .ref (b 4), .ref (b 5), .ref (b 6), .ref (b 7), .ref (b 8), .ref (b 9), .ref (b 10), .ref (b 11), .ref (b 12), .ref (b 13), .ref (b 14), .ref (b 15), .int (iI p2), .ref (b 16), .ref (b 17), .ref (b 18), .ref (b 19), .ref (b 20), .ref (b 21), .ref (b 22)]))] := e9
          subst e9
          refine x_ifneP (tgt := 71) hx hb d_Mo_asked_64 (by decide) (fun c_64 => (absurd c_64 (by decide))) (fun c_64 => ?_)
          refine lv_iconst (v := iI 1) hx hb d_Mo_asked_67 rfl ?_
          refine lv_goto (tgt := 72) hx hb d_Mo_asked_68 (by decide) ?_
          exact x_zret hx hb hr (rfl) hlocks hQ (Or.inr (Or.inr ⟨by omega, by unfold okM; omega, rfl, show [(b 0, .inr (6, [.int (iI (fE (fE 0 0 1) 0 2)), .int (iI M.rw), .int (iI M.cn), .int (iI M.en), .int (iI M.pr), .double (dM M.ko (-3)), .ref (b 1), .ref (b 2), .ref (b 3), .ref (b 4), .ref (b 5), .ref (b 6), .ref (b 7), .ref (b 8), .ref (b 9), .ref (b 10), .ref (b 11), .ref (b 12), .ref (b 13), .ref (b 14), .ref (b 15), .int (iI p2), .ref (b 16), .ref (b 17), .ref (b 18), .ref (b 19), .ref (b 20), .ref (b 21), .ref (b 22)]))] = _ from rfl⟩)) rfl hP hS d_Mo_asked_72
        · refine lv_iconst (v := iI 1) hx hb d_Mo_asked_55 rfl ?_
          refine lv_goto (tgt := 60) hx hb d_Mo_asked_56 (by decide) ?_
          refine lv_iconst (v := iI 2) hx hb d_Mo_asked_60 rfl ?_
          refine x_callV1F (V := .int (iI (zP (fE (fE 0 0 1) 1 2 ≠ 0)))) S (c_Mo_fails l D aC b M (fE 0 0 1) p2 1 2 (by omega) (by omega) (by omega)) t_Mo_112 (rm_ok (by decide) (by decide)) hK hN hP hD hS [0] [] rfl rfl (fun w9 hw => by obtain rfl := hw; exact ⟨rfl, Nat.le_of_ble_eq_true rfl⟩) 0 6 rfl rfl rfl hl.1 rfl (Nat.le_of_ble_eq_true rfl) d_Mo_asked_61 ⟨Nat.zero_le _, Nat.zero_le _⟩ (fun w1 ws1 H locs e9 hw hP hD hS => ?_)
          obtain rfl := hw
          have e9 : ws1 = [(b 0, .inr (6, [.int (iI (fE (fE 0 0 1) 1 2)), .int (iI M.rw), .int (iI M.cn), .int (iI M.en), .int (iI M.pr), .double (dM M.ko (-3)), .ref (b 1), .ref (b 2), .ref (b 3), .ref (b 4), .ref (b 5), .ref (b 6), .ref (b 7), .ref (b 8), .ref (b 9), .ref (b 10), .ref (b 11), .ref (b 12), .ref (b 13), .ref (b 14), .ref (b 15), .int (iI p2), .ref (b 16), .ref (b 17), .ref (b 18), .ref (b 19), .ref (b 20), .ref (b 21), .ref (b 22)]))] := e9
          subst e9
          refine x_ifneP (tgt := 71) hx hb d_Mo_asked_64 (by decide) (fun c_64 => ?_) (fun c_64 => (absurd (by decide) c_64))
          refine lv_iconst (v := iI 0) hx hb d_Mo_asked_71 rfl ?_
          exact x_zret hx hb hr (rfl) hlocks hQ (Or.inr (Or.inl ⟨by omega, by unfold okM; omega, rfl, show [(b 0, .inr (6, [.int (iI (fE (fE 0 0 1) 1 2)), .int (iI M.rw), .int (iI M.cn), .int (iI M.en), .int (iI M.pr), .double (dM M.ko (-3)), .ref (b 1), .ref (b 2), .ref (b 3), .ref (b 4), .ref (b 5), .ref (b 6), .ref (b 7), .ref (b 8), .ref (b 9), .ref (b 10), .ref (b 11), .ref (b 12), .ref (b 13), .ref (b 14), .ref (b 15), .int (iI p2), .ref (b 16), .ref (b 17), .ref (b 18), .ref (b 19), .ref (b 20), .ref (b 21), .ref (b 22)]))] = _ from rfl⟩)) rfl hP hS d_Mo_asked_72
  · refine lv_iconst (v := iI 1) hx hb d_Mo_asked_11 rfl ?_
    refine lv_goto (tgt := 16) hx hb d_Mo_asked_12 (by decide) ?_
    refine lv_iconst (v := iI 1) hx hb d_Mo_asked_16 rfl ?_
    refine x_callV1F (V := .int (iI (zP (fE 0 1 1 ≠ 0)))) S (c_Mo_fails l D aC b M 0 p2 1 1 (by omega) (by omega) (by omega)) t_Mo_112 (rm_ok (by decide) (by decide)) hK hN hP hD hS [0] [] rfl rfl (fun w9 hw => by obtain rfl := hw; exact ⟨rfl, Nat.le_of_ble_eq_true rfl⟩) 0 6 rfl rfl rfl hl.1 rfl (Nat.le_of_ble_eq_true rfl) d_Mo_asked_17 ⟨Nat.zero_le _, Nat.zero_le _⟩ (fun w1 ws1 H locs e9 hw hP hD hS => ?_)
    obtain rfl := hw
    have e9 : ws1 = [(b 0, .inr (6, [.int (iI (fE 0 1 1)), .int (iI M.rw), .int (iI M.cn), .int (iI M.en), .int (iI M.pr), .double (dM M.ko (-3)), .ref (b 1), .ref (b 2), .ref (b 3), .ref (b 4), .ref (b 5), .ref (b 6), .ref (b 7), .ref (b 8), .ref (b 9), .ref (b 10), .ref (b 11), .ref (b 12), .ref (b 13), .ref (b 14), .ref (b 15), .int (iI p2), .ref (b 16), .ref (b 17), .ref (b 18), .ref (b 19), .ref (b 20), .ref (b 21), .ref (b 22)]))] := e9
    subst e9
    refine x_ifneP (tgt := 71) hx hb d_Mo_asked_20 (by decide) (fun c_20 => ?_) (fun c_20 => (absurd (by decide) c_20))
    refine lv_iconst (v := iI 0) hx hb d_Mo_asked_71 rfl ?_
    exact x_zret hx hb hr (rfl) hlocks hQ (Or.inl ⟨by omega, rfl, show [(b 0, .inr (6, [.int (iI (fE 0 1 1)), .int (iI M.rw), .int (iI M.cn), .int (iI M.en), .int (iI M.pr), .double (dM M.ko (-3)), .ref (b 1), .ref (b 2), .ref (b 3), .ref (b 4), .ref (b 5), .ref (b 6), .ref (b 7), .ref (b 8), .ref (b 9), .ref (b 10), .ref (b 11), .ref (b 12), .ref (b 13), .ref (b 14), .ref (b 15), .int (iI p2), .ref (b 16), .ref (b 17), .ref (b 18), .ref (b 19), .ref (b 20), .ref (b 21), .ref (b 22)]))] = _ from rfl⟩) rfl hP hS d_Mo_asked_72
