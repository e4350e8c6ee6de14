set_option maxHeartbeats 4000000 in
set_option maxRecDepth 100000 in
theorem c_Nu_mantissa (l : Launch) (D : va_G) (aC : Nat → ClassId) (a am ae n : Nat) (fm fe : Int → Int) (i : Int) (hi : 0 ≤ i ∧ i < (n : Int)) (hn : n < 2147483648) : CR l D aC y_Nu_mantissa (rd 0 0) [.ref a, .int (iI i)] [(a, .inr (0, [.ref am, .ref ae])), (am, eJ aC n fm), (ae, eI aC n fe)] (fun v => v = some (.long (lI (fm i)))) := by
  refine CR.of (cc := b_Nu_mantissa) (maxL := 2) (ret := (some .long)) (by decide +kernel) k_Nu_mantissa (Nat.le_of_ble_eq_true rfl) ?_
  intro p e s m below meth c Q S hr hlocks hQ hK hN hP ls hl
  obtain ⟨hx, hb, hml, hown, hts⟩ := id S
  have hl : lv_has ls 2 [(0, .ref a), (1, .int (iI i))] := hl
  refine lv_iload_n hx hb d_Nu_mantissa_0 rfl (lv_at hl 1 rfl) ?_
  refine x_if_lt (tgt := 22) hx hb d_Nu_mantissa_1 (by decide) (by omega) (fun c_1 => (by exfalso; omega)) (fun c_1 => ?_)
  refine lv_iload_n hx hb d_Nu_mantissa_4 rfl (lv_at hl 1 rfl) ?_
  refine lv_aload_n hx hb d_Nu_mantissa_5 rfl (lv_at hl 0 rfl) ?_
  refine va_get (D := D) (ci := 0) (v := .ref am) (C := R_Nu) (T := F_Nu) (N := 2) hx hb hts i_Nu hown hK hP 0 rfl rfl 0 (by decide) (hts _ wf_Nu_13) (fun _ h9 => h9) rfl d_Nu_mantissa_6 ?_
  refine x_alen hx hb hK hP 1 1 rfl rfl (n := n) rfl d_Nu_mantissa_9 ?_
  refine x_icmp_ge (tgt := 22) hx hb d_Nu_mantissa_10 (by decide) (by omega) (by omega) (fun c_10 => (by exfalso; omega)) (fun c_10 => ?_)
  refine lv_aload_n hx hb d_Nu_mantissa_13 rfl (lv_at hl 0 rfl) ?_
  refine va_get (D := D) (ci := 0) (v := .ref am) (C := R_Nu) (T := F_Nu) (N := 2) hx hb hts i_Nu hown hK hP 0 rfl rfl 0 (by decide) (hts _ wf_Nu_13) (fun _ h9 => h9) rfl d_Nu_mantissa_14 ?_
  refine lv_iload_n hx hb d_Nu_mantissa_17 rfl (lv_at hl 1 rfl) ?_
  refine x_lald hx hb hK hP 1 rfl (by omega) (hn) d_Nu_mantissa_18 ?_
  refine lv_goto (tgt := 23) hx hb d_Nu_mantissa_19 (by decide) ?_
  exact y_lret hx hb hr hlocks hQ (rfl) d_Nu_mantissa_23
set_option maxHeartbeats 4000000 in
set_option maxRecDepth 100000 in
theorem c_Nu_exponent (l : Launch) (D : va_G) (aC : Nat → ClassId) (a am ae n : Nat) (fm fe : Int → Int) (i : Int) (hi : 0 ≤ i ∧ i < (n : Int)) (hn : n < 2147483648) : CR l D aC y_Nu_exponent (rd 0 0) [.ref a, .int (iI i)] [(a, .inr (0, [.ref am, .ref ae])), (am, eJ aC n fm), (ae, eI aC n fe)] (fun v => v = some (.int (iI (fe i)))) := by
  refine CR.of (cc := b_Nu_exponent) (maxL := 2) (ret := (some .int)) (by decide +kernel) k_Nu_exponent (Nat.le_of_ble_eq_true rfl) ?_
  intro p e s m below meth c Q S hr hlocks hQ hK hN hP ls hl
  obtain ⟨hx, hb, hml, hown, hts⟩ := id S
  have hl : lv_has ls 2 [(0, .ref a), (1, .int (iI i))] := hl
  refine lv_iload_n hx hb d_Nu_exponent_0 rfl (lv_at hl 1 rfl) ?_
  refine x_if_lt (tgt := 22) hx hb d_Nu_exponent_1 (by decide) (by omega) (fun c_1 => (by exfalso; omega)) (fun c_1 => ?_)
  refine lv_iload_n hx hb d_Nu_exponent_4 rfl (lv_at hl 1 rfl) ?_
  refine lv_aload_n hx hb d_Nu_exponent_5 rfl (lv_at hl 0 rfl) ?_
  refine va_get (D := D) (ci := 0) (v := .ref ae) (C := R_Nu) (T := F_Nu) (N := 2) hx hb hts i_Nu hown hK hP 0 rfl rfl 1 (by decide) (hts _ wf_Nu_19) (fun _ h9 => h9) rfl d_Nu_exponent_6 ?_
  refine x_alen hx hb hK hP 2 0 rfl rfl (n := n) rfl d_Nu_exponent_9 ?_
  refine x_icmp_ge (tgt := 22) hx hb d_Nu_exponent_10 (by decide) (by omega) (by omega) (fun c_10 => (by exfalso; omega)) (fun c_10 => ?_)
  refine lv_aload_n hx hb d_Nu_exponent_13 rfl (lv_at hl 0 rfl) ?_
  refine va_get (D := D) (ci := 0) (v := .ref ae) (C := R_Nu) (T := F_Nu) (N := 2) hx hb hts i_Nu hown hK hP 0 rfl rfl 1 (by decide) (hts _ wf_Nu_19) (fun _ h9 => h9) rfl d_Nu_exponent_14 ?_
  refine lv_iload_n hx hb d_Nu_exponent_17 rfl (lv_at hl 1 rfl) ?_
  refine x_iald hx hb hK hP 2 rfl (by omega) (hn) d_Nu_exponent_18 ?_
  refine lv_goto (tgt := 23) hx hb d_Nu_exponent_19 (by decide) ?_
  exact y_iret hx hb hr hlocks hQ (rfl) d_Nu_exponent_23
set_option maxHeartbeats 4000000 in
set_option maxRecDepth 100000 in
theorem c_Nu_allows_0 (l : Launch) (D : va_G) (aC : Nat → ClassId) (k q : Int) (hk : -4294967296 < k ∧ k < 4294967296) (hq : -3 ≤ q ∧ q ≤ 0) (hs : k = 0) : CR l D aC y_Nu_allows (rd 0 0) [.double (dM k q)] [] (fun v => v = some (.int (iI 1))) := by
  refine CR.of (cc := b_Nu_allows) (maxL := 6) (ret := (some .boolean)) (by decide +kernel) k_Nu_allows (Nat.le_of_ble_eq_true rfl) ?_
  intro p e s m below meth c Q S hr hlocks hQ hK hN hP ls hl
  obtain ⟨hx, hb, hml, hown, hts⟩ := id S
  have hl : lv_has ls 6 [(0, .double (dM k q))] := hl
  refine x_ldc2d hx hb 1 60 (by decide +kernel) hown (hts _ wk_Nu_23) d_Nu_allows_0 ?_
  refine lv_dstore_n (lv' := [(2, .double (dM 1 60)), (0, .double (dM k q))]) hx hb d_Nu_allows_3 rfl hl (by decide) rfl (fun ls hl => ?_)
  refine lv_dload_n hx hb d_Nu_allows_4 rfl (lv_at hl 1 rfl) ?_
  refine lv_dload_n hx hb d_Nu_allows_5 rfl (lv_at hl 0 rfl) ?_
  refine x_dneg hx hb d_Nu_allows_6 (by unfold dOk; omega) (by omega) ?_
  refine x_dcmp_lt (tgt := 17) hx hb d_Nu_allows_7 d_Nu_allows_8 (by decide) (by unfold dOk; omega) (by unfold dOk; omega) (fun c_7 => ((al_lo hk hq c_7).elim)) (fun c_7 => ?_)
  refine lv_dload_n hx hb d_Nu_allows_11 rfl (lv_at hl 1 rfl) ?_
  refine lv_dload_n hx hb d_Nu_allows_12 rfl (lv_at hl 0 rfl) ?_
  refine x_dcmp_le (tgt := 19) hx hb d_Nu_allows_13 d_Nu_allows_14 (by decide) (by unfold dOk; omega) (by unfold dOk; omega) (fun c_13 => ?_) (fun c_13 => ((al_hi hk hq c_13).elim))
  refine lv_dload_n hx hb d_Nu_allows_19 rfl (lv_at hl 1 rfl) ?_
  refine x_dconst0 hx hb d_Nu_allows_20 ?_
  refine x_dcmp_ge (tgt := 30) hx hb d_Nu_allows_21 d_Nu_allows_22 (by decide) (by unfold dOk; omega) (by unfold dOk; omega) (fun c_21 => ?_) (fun c_21 => (absurd (zs_ge.mpr (by omega)) c_21))
  refine lv_dload_n hx hb d_Nu_allows_30 rfl (lv_at hl 1 rfl) ?_
  refine lv_dstore (lv' := [(4, .double (dM k q)), (2, .double (dM 1 60)), (0, .double (dM k q))]) hx hb d_Nu_allows_31 hl (by decide) rfl (fun ls hl => ?_)
  refine lv_dload hx hb d_Nu_allows_33 (lv_at hl 0 rfl) ?_
  refine x_dconst0 hx hb d_Nu_allows_35 ?_
  refine x_dcmp_eq (tgt := 49) hx hb d_Nu_allows_36 d_Nu_allows_37 (by decide) (by unfold dOk; omega) (by unfold dOk; omega) (fun c_36 => ?_) (fun c_36 => (absurd (zs_eq.mpr (by omega)) c_36))
  refine lv_iconst (v := iI 1) hx hb d_Nu_allows_49 rfl ?_
  refine lv_goto (tgt := 54) hx hb d_Nu_allows_50 (by decide) ?_
  exact y_zret hx hb hr (rfl) hlocks hQ (rfl) d_Nu_allows_54
set_option maxHeartbeats 4000000 in
set_option maxRecDepth 100000 in
theorem c_Nu_allows_p (l : Launch) (D : va_G) (aC : Nat → ClassId) (k q : Int) (hk : -4294967296 < k ∧ k < 4294967296) (hq : -3 ≤ q ∧ q ≤ 0) (hs : 0 < k) : CR l D aC y_Nu_allows (rd 0 0) [.double (dM k q)] [] (fun v => v = some (.int (iI 1))) := by
  refine CR.of (cc := b_Nu_allows) (maxL := 6) (ret := (some .boolean)) (by decide +kernel) k_Nu_allows (Nat.le_of_ble_eq_true rfl) ?_
  intro p e s m below meth c Q S hr hlocks hQ hK hN hP ls hl
  obtain ⟨hx, hb, hml, hown, hts⟩ := id S
  have hl : lv_has ls 6 [(0, .double (dM k q))] := hl
  refine x_ldc2d hx hb 1 60 (by decide +kernel) hown (hts _ wk_Nu_23) d_Nu_allows_0 ?_
  refine lv_dstore_n (lv' := [(2, .double (dM 1 60)), (0, .double (dM k q))]) hx hb d_Nu_allows_3 rfl hl (by decide) rfl (fun ls hl => ?_)
  refine lv_dload_n hx hb d_Nu_allows_4 rfl (lv_at hl 1 rfl) ?_
  refine lv_dload_n hx hb d_Nu_allows_5 rfl (lv_at hl 0 rfl) ?_
  refine x_dneg hx hb d_Nu_allows_6 (by unfold dOk; omega) (by omega) ?_
  refine x_dcmp_lt (tgt := 17) hx hb d_Nu_allows_7 d_Nu_allows_8 (by decide) (by unfold dOk; omega) (by unfold dOk; omega) (fun c_7 => ((al_lo hk hq c_7).elim)) (fun c_7 => ?_)
  refine lv_dload_n hx hb d_Nu_allows_11 rfl (lv_at hl 1 rfl) ?_
  refine lv_dload_n hx hb d_Nu_allows_12 rfl (lv_at hl 0 rfl) ?_
  refine x_dcmp_le (tgt := 19) hx hb d_Nu_allows_13 d_Nu_allows_14 (by decide) (by unfold dOk; omega) (by unfold dOk; omega) (fun c_13 => ?_) (fun c_13 => ((al_hi hk hq c_13).elim))
  refine lv_dload_n hx hb d_Nu_allows_19 rfl (lv_at hl 1 rfl) ?_
  refine x_dconst0 hx hb d_Nu_allows_20 ?_
  refine x_dcmp_ge (tgt := 30) hx hb d_Nu_allows_21 d_Nu_allows_22 (by decide) (by unfold dOk; omega) (by unfold dOk; omega) (fun c_21 => ?_) (fun c_21 => (absurd (zs_ge.mpr (by omega)) c_21))
  refine lv_dload_n hx hb d_Nu_allows_30 rfl (lv_at hl 1 rfl) ?_
  refine lv_dstore (lv' := [(4, .double (dM k q)), (2, .double (dM 1 60)), (0, .double (dM k q))]) hx hb d_Nu_allows_31 hl (by decide) rfl (fun ls hl => ?_)
  refine lv_dload hx hb d_Nu_allows_33 (lv_at hl 0 rfl) ?_
  refine x_dconst0 hx hb d_Nu_allows_35 ?_
  refine x_dcmp_eq (tgt := 49) hx hb d_Nu_allows_36 d_Nu_allows_37 (by decide) (by unfold dOk; omega) (by unfold dOk; omega) (fun c_36 => (absurd (zs_eq.mp c_36) (by omega))) (fun c_36 => ?_)
  refine lv_dload hx hb d_Nu_allows_40 (lv_at hl 0 rfl) ?_
  refine lv_dload_n hx hb d_Nu_allows_42 rfl (lv_at hl 1 rfl) ?_
  refine x_dmul1 hx hb d_Nu_allows_43 (by unfold dOk; omega) (by unfold dOk; omega) (by unfold dOk; omega) ?_
  refine x_dconst1 hx hb d_Nu_allows_44 ?_
  refine x_dcmp_lt (tgt := 53) hx hb d_Nu_allows_45 d_Nu_allows_46 (by decide) (by unfold dOk; omega) (by unfold dOk; omega) (fun c_45 => ((al_one (by omega) hq c_45).elim)) (fun c_45 => ?_)
  refine lv_iconst (v := iI 1) hx hb d_Nu_allows_49 rfl ?_
  refine lv_goto (tgt := 54) hx hb d_Nu_allows_50 (by decide) ?_
  exact y_zret hx hb hr (rfl) hlocks hQ (rfl) d_Nu_allows_54
set_option maxHeartbeats 4000000 in
set_option maxRecDepth 100000 in
theorem c_Nu_allows_n (l : Launch) (D : va_G) (aC : Nat → ClassId) (k q : Int) (hk : -4294967296 < k ∧ k < 4294967296) (hq : -3 ≤ q ∧ q ≤ 0) (hs : k < 0) : CR l D aC y_Nu_allows (rd 0 0) [.double (dM k q)] [] (fun v => v = some (.int (iI 1))) := by
  refine CR.of (cc := b_Nu_allows) (maxL := 6) (ret := (some .boolean)) (by decide +kernel) k_Nu_allows (Nat.le_of_ble_eq_true rfl) ?_
  intro p e s m below meth c Q S hr hlocks hQ hK hN hP ls hl
  obtain ⟨hx, hb, hml, hown, hts⟩ := id S
  have hl : lv_has ls 6 [(0, .double (dM k q))] := hl
  refine x_ldc2d hx hb 1 60 (by decide +kernel) hown (hts _ wk_Nu_23) d_Nu_allows_0 ?_
  refine lv_dstore_n (lv' := [(2, .double (dM 1 60)), (0, .double (dM k q))]) hx hb d_Nu_allows_3 rfl hl (by decide) rfl (fun ls hl => ?_)
  refine lv_dload_n hx hb d_Nu_allows_4 rfl (lv_at hl 1 rfl) ?_
  refine lv_dload_n hx hb d_Nu_allows_5 rfl (lv_at hl 0 rfl) ?_
  refine x_dneg hx hb d_Nu_allows_6 (by unfold dOk; omega) (by omega) ?_
  refine x_dcmp_lt (tgt := 17) hx hb d_Nu_allows_7 d_Nu_allows_8 (by decide) (by unfold dOk; omega) (by unfold dOk; omega) (fun c_7 => ((al_lo hk hq c_7).elim)) (fun c_7 => ?_)
  refine lv_dload_n hx hb d_Nu_allows_11 rfl (lv_at hl 1 rfl) ?_
  refine lv_dload_n hx hb d_Nu_allows_12 rfl (lv_at hl 0 rfl) ?_
  refine x_dcmp_le (tgt := 19) hx hb d_Nu_allows_13 d_Nu_allows_14 (by decide) (by unfold dOk; omega) (by unfold dOk; omega) (fun c_13 => ?_) (fun c_13 => ((al_hi hk hq c_13).elim))
  refine lv_dload_n hx hb d_Nu_allows_19 rfl (lv_at hl 1 rfl) ?_
  refine x_dconst0 hx hb d_Nu_allows_20 ?_
  refine x_dcmp_ge (tgt := 30) hx hb d_Nu_allows_21 d_Nu_allows_22 (by decide) (by unfold dOk; omega) (by unfold dOk; omega) (fun c_21 => (absurd (zs_ge.mp c_21) (by omega))) (fun c_21 => ?_)
  refine lv_dload_n hx hb d_Nu_allows_25 rfl (lv_at hl 1 rfl) ?_
  refine x_dneg hx hb d_Nu_allows_26 (by unfold dOk; omega) (by omega) ?_
  refine lv_goto (tgt := 31) hx hb d_Nu_allows_27 (by decide) ?_
  refine lv_dstore (lv' := [(4, .double (dM (-k) q)), (2, .double (dM 1 60)), (0, .double (dM k q))]) hx hb d_Nu_allows_31 hl (by decide) rfl (fun ls hl => ?_)
  refine lv_dload hx hb d_Nu_allows_33 (lv_at hl 0 rfl) ?_
  refine x_dconst0 hx hb d_Nu_allows_35 ?_
  refine x_dcmp_eq (tgt := 49) hx hb d_Nu_allows_36 d_Nu_allows_37 (by decide) (by unfold dOk; omega) (by unfold dOk; omega) (fun c_36 => (absurd (zs_eq.mp c_36) (by omega))) (fun c_36 => ?_)
  refine lv_dload hx hb d_Nu_allows_40 (lv_at hl 0 rfl) ?_
  refine lv_dload_n hx hb d_Nu_allows_42 rfl (lv_at hl 1 rfl) ?_
  refine x_dmul1 hx hb d_Nu_allows_43 (by unfold dOk; omega) (by unfold dOk; omega) (by unfold dOk; omega) ?_
  refine x_dconst1 hx hb d_Nu_allows_44 ?_
  refine x_dcmp_lt (tgt := 53) hx hb d_Nu_allows_45 d_Nu_allows_46 (by decide) (by unfold dOk; omega) (by unfold dOk; omega) (fun c_45 => ((al_one (by omega) hq c_45).elim)) (fun c_45 => ?_)
  refine lv_iconst (v := iI 1) hx hb d_Nu_allows_49 rfl ?_
  refine lv_goto (tgt := 54) hx hb d_Nu_allows_50 (by decide) ?_
  exact y_zret hx hb hr (rfl) hlocks hQ (rfl) d_Nu_allows_54
theorem c_Nu_allows (l : Launch) (D : va_G) (aC : Nat → ClassId) (k q : Int) (hk : -4294967296 < k ∧ k < 4294967296) (hq : -3 ≤ q ∧ q ≤ 0) : CR l D aC y_Nu_allows (rd 0 0) [.double (dM k q)] [] (fun v => v = some (.int (iI 1))) := by
  rcases (show k = 0 ∨ 0 < k ∨ k < 0 by omega) with h | h | h
  · exact c_Nu_allows_0 l D aC k q hk hq h
  · exact c_Nu_allows_p l D aC k q hk hq h
  · exact c_Nu_allows_n l D aC k q hk hq h
set_option maxHeartbeats 4000000 in
set_option maxRecDepth 100000 in
theorem c_Nu_put_0 (l : Launch) (D : va_G) (aC : Nat → ClassId) (a am ae n : Nat) (fm fe : Int → Int) (i k q b : Int) (hi : 0 ≤ i ∧ i < (n : Int)) (hn : n < 2147483648) (hk : -4294967296 < k ∧ k < 4294967296) (hq : -3 ≤ q ∧ q ≤ 0) (hbb : -600 ≤ b ∧ b ≤ 600) (hs : k = 0) : CT l D aC y_Nu_put (rd 0 0) [.ref a, .int (iI i), .double (dM k q), .int (iI b)] [(a, .inr (0, [.ref am, .ref ae])), (am, eJ aC n fm), (ae, eI aC n fe)] (fun v w => v = none ∧ w = [(a, .inr (0, [.ref am, .ref ae])), (am, eJ aC n (updI fm i (k * 2 ^ nt k))), (ae, eI aC n (updI fe i (nx k q b)))]) := by
  refine CT.of (cc := b_Nu_put) (maxL := 14) (ret := none) (by decide +kernel) k_Nu_put (Nat.le_of_ble_eq_true rfl) ?_
  intro p e s m below meth c Q S hr hlocks hQ hK hN hP hD hS ls hl
  obtain ⟨hx, hb, hml, hown, hts⟩ := id S
  have hl : lv_has ls 14 [(0, .ref a), (1, .int (iI i)), (2, .double (dM k q)), (4, .int (iI b))] := hl
  refine lv_iload_n hx hb d_Nu_put_0 rfl (lv_at hl 1 rfl) ?_
  refine x_if_lt (tgt := 13) hx hb d_Nu_put_1 (by decide) (by omega) (fun c_1 => (by exfalso; omega)) (fun c_1 => ?_)
  refine lv_iload_n hx hb d_Nu_put_4 rfl (lv_at hl 1 rfl) ?_
  refine lv_aload_n hx hb d_Nu_put_5 rfl (lv_at hl 0 rfl) ?_
  refine va_get (D := D) (ci := 0) (v := .ref am) (C := R_Nu) (T := F_Nu) (N := 2) hx hb hts i_Nu hown hK hP 0 rfl rfl 0 (by decide) (hts _ wf_Nu_13) (fun _ h9 => h9) rfl d_Nu_put_6 ?_
  refine x_alen hx hb hK hP 1 1 rfl rfl (n := n) rfl d_Nu_put_9 ?_
  refine x_icmp_lt (tgt := 14) hx hb d_Nu_put_10 (by decide) (by omega) (by omega) (fun c_10 => ?_) (fun c_10 => (by exfalso; omega))
  refine lv_dload_n hx hb d_Nu_put_14 rfl (lv_at hl 2 rfl) ?_
  refine x_dconst0 hx hb d_Nu_put_15 ?_
  refine x_dcmp_ge (tgt := 25) hx hb d_Nu_put_16 d_Nu_put_17 (by decide) (by unfold dOk; omega) (by unfold dOk; omega) (fun c_16 => ?_) (fun c_16 => (absurd (zs_ge.mpr (by omega)) c_16))
  refine lv_dload_n hx hb d_Nu_put_25 rfl (lv_at hl 2 rfl) ?_
  refine lv_dstore (lv' := [(5, .double (dM k q)), (0, .ref a), (1, .int (iI i)), (2, .double (dM k q)), (4, .int (iI b))]) hx hb d_Nu_put_26 hl (by decide) rfl (fun ls hl => ?_)
  refine x_ldc2d hx hb 1 52 (by decide +kernel) hown (hts _ wk_Nu_25) d_Nu_put_28 ?_
  refine lv_dstore (lv' := [(7, .double (dM 1 52)), (5, .double (dM k q)), (0, .ref a), (1, .int (iI i)), (2, .double (dM k q)), (4, .int (iI b))]) hx hb d_Nu_put_31 hl (by decide) rfl (fun ls hl => ?_)
  refine x_ldc2d hx hb 1 53 (by decide +kernel) hown (hts _ wk_Nu_27) d_Nu_put_33 ?_
  refine lv_dstore (lv' := [(9, .double (dM 1 53)), (7, .double (dM 1 52)), (5, .double (dM k q)), (0, .ref a), (1, .int (iI i)), (2, .double (dM k q)), (4, .int (iI b))]) hx hb d_Nu_put_36 hl (by decide) rfl (fun ls hl => ?_)
  refine lv_iload hx hb d_Nu_put_38 (lv_at hl 6 rfl) ?_
  refine lv_istore (lv' := [(11, .int (iI b)), (9, .double (dM 1 53)), (7, .double (dM 1 52)), (5, .double (dM k q)), (0, .ref a), (1, .int (iI i)), (2, .double (dM k q)), (4, .int (iI b))]) hx hb d_Nu_put_40 hl (by decide) rfl (fun ls hl => ?_)
  refine lv_iconst (v := iI 0) hx hb d_Nu_put_42 rfl ?_
  refine lv_istore (lv' := [(12, .int (iI 0)), (11, .int (iI b)), (9, .double (dM 1 53)), (7, .double (dM 1 52)), (5, .double (dM k q)), (0, .ref a), (1, .int (iI i)), (2, .double (dM k q)), (4, .int (iI b))]) hx hb d_Nu_put_43 hl (by decide) rfl (fun ls hl => ?_)
  refine lv_iload hx hb d_Nu_put_45 (lv_at hl 0 rfl) ?_
  refine lv_bipush (v := iI 120) hx hb d_Nu_put_47 (by decide +kernel) ?_
  refine x_icmp_ge (tgt := 84) hx hb d_Nu_put_49 (by decide) (by omega) (by omega) (fun c_49 => (by exfalso; omega)) (fun c_49 => ?_)
  refine lv_dload hx hb d_Nu_put_52 (lv_at hl 4 rfl) ?_
  refine x_dconst0 hx hb d_Nu_put_54 ?_
  refine x_dcmp_le (tgt := 84) hx hb d_Nu_put_55 d_Nu_put_56 (by decide) (by unfold dOk; omega) (by unfold dOk; omega) (fun c_55 => ?_) (fun c_55 => (absurd (zs_le.mpr (by omega)) c_55))
  refine lv_iconst (v := iI 0) hx hb d_Nu_put_84 rfl ?_
  refine lv_istore (lv' := [(12, .int (iI 0)), (11, .int (iI b)), (9, .double (dM 1 53)), (7, .double (dM 1 52)), (5, .double (dM k q)), (0, .ref a), (1, .int (iI i)), (2, .double (dM k q)), (4, .int (iI b))]) hx hb d_Nu_put_85 hl (by decide) rfl (fun ls hl => ?_)
  refine lv_iload hx hb d_Nu_put_87 (lv_at hl 0 rfl) ?_
  refine lv_bipush (v := iI 120) hx hb d_Nu_put_89 (by decide +kernel) ?_
  refine x_icmp_ge (tgt := 119) hx hb d_Nu_put_91 (by decide) (by omega) (by omega) (fun c_91 => (by exfalso; omega)) (fun c_91 => ?_)
  refine lv_dload hx hb d_Nu_put_94 (lv_at hl 4 rfl) ?_
  refine lv_dload hx hb d_Nu_put_96 (lv_at hl 2 rfl) ?_
  refine x_dcmp_lt (tgt := 119) hx hb d_Nu_put_98 d_Nu_put_99 (by decide) (by unfold dOk; omega) (by unfold dOk; omega) (fun c_98 => ?_) (fun c_98 => (absurd (put_z0 (by omega)) c_98))
  refine lv_dload hx hb d_Nu_put_119 (lv_at hl 4 rfl) ?_
  refine x_topd k q k ((0 : Nat) : Int) (by rw [hs]; exact dM_zero _ _) ?_
  refine x_d2l hx hb d_Nu_put_121 (by unfold dOk; omega) (by rw [hs]; simp) ?_
  refine lv_lstore (lv' := [(12, .long (lI (k * 2 ^ 0))), (11, .int (iI b)), (9, .double (dM 1 53)), (7, .double (dM 1 52)), (5, .double (dM k q)), (0, .ref a), (1, .int (iI i)), (2, .double (dM k q)), (4, .int (iI b))]) hx hb d_Nu_put_122 hl (by decide) rfl (fun ls hl => ?_)
  refine lv_aload_n hx hb d_Nu_put_124 rfl (lv_at hl 5 rfl) ?_
  refine va_get (D := D) (ci := 0) (v := .ref am) (C := R_Nu) (T := F_Nu) (N := 2) hx hb hts i_Nu hown hK hP 0 rfl rfl 0 (by decide) (hts _ wf_Nu_13) (fun _ h9 => h9) rfl d_Nu_put_125 ?_
  refine lv_iload_n hx hb d_Nu_put_128 rfl (lv_at hl 6 rfl) ?_
  refine lv_dload_n hx hb d_Nu_put_129 rfl (lv_at hl 7 rfl) ?_
  refine x_dconst0 hx hb d_Nu_put_130 ?_
  refine x_dcmp_ge (tgt := 141) hx hb d_Nu_put_131 d_Nu_put_132 (by decide) (by unfold dOk; omega) (by unfold dOk; omega) (fun c_131 => ?_) (fun c_131 => (absurd (zs_ge.mpr (by omega)) c_131))
  refine lv_lload hx hb d_Nu_put_141 (lv_at hl 0 rfl) ?_
  refine x_topl (k * 2 ^ 0) (k * 2 ^ nt k) (by rw [hs]; simp) ?_
  refine x_last hx hb hK hP hD hS 1 rfl (by omega) (hn) d_Nu_put_143 (fun H locs hP hD hS => ?_)
  have hP : va_P D CL [(a, .inr (0, [.ref am, .ref ae])), (am, eJ aC n (updI fm i (k * 2 ^ nt k))), (ae, eI aC n fe)] H := hP
  have hD : va_D (aW [(a, .inr (0, [.ref am, .ref ae])), (am, eJ aC n fm), (ae, eI aC n fe)]) [(a, .inr (0, [.ref am, .ref ae])), (am, eJ aC n (updI fm i (k * 2 ^ nt k))), (ae, eI aC n fe)] := hD
  refine lv_aload_n hx hb d_Nu_put_144 rfl (lv_at hl 5 rfl) ?_
  refine va_get (D := D) (ci := 0) (v := .ref ae) (C := R_Nu) (T := F_Nu) (N := 2) hx hb hts i_Nu hown hK hP 0 rfl rfl 1 (by decide) (hts _ wf_Nu_19) (fun _ h9 => h9) rfl d_Nu_put_145 ?_
  refine lv_iload_n hx hb d_Nu_put_148 rfl (lv_at hl 6 rfl) ?_
  refine lv_iload hx hb d_Nu_put_149 (lv_at hl 1 rfl) ?_
  refine x_top b (nx k q b) (by unfold nx; rw [if_pos hs]) ?_
  refine x_iast hx hb hK hP hD hS 2 rfl (by omega) (hn) d_Nu_put_151 (fun H locs hP hD hS => ?_)
  have hP : va_P D CL [(a, .inr (0, [.ref am, .ref ae])), (am, eJ aC n (updI fm i (k * 2 ^ nt k))), (ae, eI aC n (updI fe i (nx k q b)))] H := hP
  have hD : va_D (aW [(a, .inr (0, [.ref am, .ref ae])), (am, eJ aC n fm), (ae, eI aC n fe)]) [(a, .inr (0, [.ref am, .ref ae])), (am, eJ aC n (updI fm i (k * 2 ^ nt k))), (ae, eI aC n (updI fe i (nx k q b)))] := hD
  exact x_vret hx hb hr hlocks hQ (⟨rfl, rfl⟩) rfl hP hS d_Nu_put_152
set_option maxHeartbeats 4000000 in
set_option maxRecDepth 100000 in
theorem c_Nu_put_p (l : Launch) (D : va_G) (aC : Nat → ClassId) (a am ae n : Nat) (fm fe : Int → Int) (i k q b : Int) (hi : 0 ≤ i ∧ i < (n : Int)) (hn : n < 2147483648) (hk : -4294967296 < k ∧ k < 4294967296) (hq : -3 ≤ q ∧ q ≤ 0) (hbb : -600 ≤ b ∧ b ≤ 600) (hs : 0 < k) : CT l D aC y_Nu_put (rd 0 0) [.ref a, .int (iI i), .double (dM k q), .int (iI b)] [(a, .inr (0, [.ref am, .ref ae])), (am, eJ aC n fm), (ae, eI aC n fe)] (fun v w => v = none ∧ w = [(a, .inr (0, [.ref am, .ref ae])), (am, eJ aC n (updI fm i (k * 2 ^ nt k))), (ae, eI aC n (updI fe i (nx k q b)))]) := by
  refine CT.of (cc := b_Nu_put) (maxL := 14) (ret := none) (by decide +kernel) k_Nu_put (Nat.le_of_ble_eq_true rfl) ?_
  intro p e s m below meth c Q S hr hlocks hQ hK hN hP hD hS ls hl
  obtain ⟨hx, hb, hml, hown, hts⟩ := id S
  have hl : lv_has ls 14 [(0, .ref a), (1, .int (iI i)), (2, .double (dM k q)), (4, .int (iI b))] := hl
  have hnt := nt_r (k := k) (by omega) (by omega)
  refine lv_iload_n hx hb d_Nu_put_0 rfl (lv_at hl 1 rfl) ?_
  refine x_if_lt (tgt := 13) hx hb d_Nu_put_1 (by decide) (by omega) (fun c_1 => (by exfalso; omega)) (fun c_1 => ?_)
  refine lv_iload_n hx hb d_Nu_put_4 rfl (lv_at hl 1 rfl) ?_
  refine lv_aload_n hx hb d_Nu_put_5 rfl (lv_at hl 0 rfl) ?_
  refine va_get (D := D) (ci := 0) (v := .ref am) (C := R_Nu) (T := F_Nu) (N := 2) hx hb hts i_Nu hown hK hP 0 rfl rfl 0 (by decide) (hts _ wf_Nu_13) (fun _ h9 => h9) rfl d_Nu_put_6 ?_
  refine x_alen hx hb hK hP 1 1 rfl rfl (n := n) rfl d_Nu_put_9 ?_
  refine x_icmp_lt (tgt := 14) hx hb d_Nu_put_10 (by decide) (by omega) (by omega) (fun c_10 => ?_) (fun c_10 => (by exfalso; omega))
  refine lv_dload_n hx hb d_Nu_put_14 rfl (lv_at hl 2 rfl) ?_
  refine x_dconst0 hx hb d_Nu_put_15 ?_
  refine x_dcmp_ge (tgt := 25) hx hb d_Nu_put_16 d_Nu_put_17 (by decide) (by unfold dOk; omega) (by unfold dOk; omega) (fun c_16 => ?_) (fun c_16 => (absurd (zs_ge.mpr (by omega)) c_16))
  refine lv_dload_n hx hb d_Nu_put_25 rfl (lv_at hl 2 rfl) ?_
  refine lv_dstore (lv' := [(5, .double (dM k q)), (0, .ref a), (1, .int (iI i)), (2, .double (dM k q)), (4, .int (iI b))]) hx hb d_Nu_put_26 hl (by decide) rfl (fun ls hl => ?_)
  refine x_ldc2d hx hb 1 52 (by decide +kernel) hown (hts _ wk_Nu_25) d_Nu_put_28 ?_
  refine lv_dstore (lv' := [(7, .double (dM 1 52)), (5, .double (dM k q)), (0, .ref a), (1, .int (iI i)), (2, .double (dM k q)), (4, .int (iI b))]) hx hb d_Nu_put_31 hl (by decide) rfl (fun ls hl => ?_)
  refine x_ldc2d hx hb 1 53 (by decide +kernel) hown (hts _ wk_Nu_27) d_Nu_put_33 ?_
  refine lv_dstore (lv' := [(9, .double (dM 1 53)), (7, .double (dM 1 52)), (5, .double (dM k q)), (0, .ref a), (1, .int (iI i)), (2, .double (dM k q)), (4, .int (iI b))]) hx hb d_Nu_put_36 hl (by decide) rfl (fun ls hl => ?_)
  refine lv_iload hx hb d_Nu_put_38 (lv_at hl 6 rfl) ?_
  refine lv_istore (lv' := [(11, .int (iI b)), (9, .double (dM 1 53)), (7, .double (dM 1 52)), (5, .double (dM k q)), (0, .ref a), (1, .int (iI i)), (2, .double (dM k q)), (4, .int (iI b))]) hx hb d_Nu_put_40 hl (by decide) rfl (fun ls hl => ?_)
  refine lv_iconst (v := iI 0) hx hb d_Nu_put_42 rfl ?_
  refine lv_istore (lv' := [(12, .int (iI 0)), (11, .int (iI b)), (9, .double (dM 1 53)), (7, .double (dM 1 52)), (5, .double (dM k q)), (0, .ref a), (1, .int (iI i)), (2, .double (dM k q)), (4, .int (iI b))]) hx hb d_Nu_put_43 hl (by decide) rfl (fun ls hl => ?_)
  have L45 : ∀ (nn : Nat) (t : Int) (H : Heap) (locs : List Loc) (ls : Array Slot), (0 ≤ t ∧ t ≤ (nt k : Int) - q) → (nt k : Int) - q - t < (nn : Int) → va_P D CL [(a, .inr (0, [.ref am, .ref ae])), (am, eJ aC n fm), (ae, eI aC n fe)] H → va_D (aW [(a, .inr (0, [.ref am, .ref ae])), (am, eJ aC n fm), (ae, eI aC n fe)]) [(a, .inr (0, [.ref am, .ref ae])), (am, eJ aC n fm), (ae, eI aC n fe)] → va_S (aW [(a, .inr (0, [.ref am, .ref ae])), (am, eJ aC n fm), (ae, eI aC n fe)]) s.heap H locs → lv_has ls 14 [(12, .int (iI t)), (11, .int (iI (b - t))), (5, .double (dM k (q + t))), (9, .double (dM 1 53)), (7, .double (dM 1 52)), (0, .ref a), (1, .int (iI i)), (2, .double (dM k q)), (4, .int (iI b))] → W p l e (rd 0 0) s m ([.ref a, .int (iI i), .double (dM k q), .int (iI b)]).toArray below meth c H locs 0 0 Q (F0 m 45 ls []) := by
    intro nn
    induction nn with
    | zero => intro t H locs ls ht hnn; exact absurd hnn (by omega)
    | succ nn ih =>
      intro t H locs ls ht hnn hP hD hS hl
      refine lv_iload hx hb d_Nu_put_45 (lv_at hl 0 rfl) ?_
      refine lv_bipush (v := iI 120) hx hb d_Nu_put_47 (by decide +kernel) ?_
      refine x_icmp_ge (tgt := 84) hx hb d_Nu_put_49 (by decide) (by omega) (by omega) (fun c_49 => (by exfalso; omega)) (fun c_49 => ?_)
      refine lv_dload hx hb d_Nu_put_52 (lv_at hl 2 rfl) ?_
      refine x_dconst0 hx hb d_Nu_put_54 ?_
      refine x_dcmp_le (tgt := 84) hx hb d_Nu_put_55 d_Nu_put_56 (by decide) (by unfold dOk; have := nt_r (k := k) (by omega) (by omega); omega) (by unfold dOk; have := nt_r (k := k) (by omega) (by omega); omega) (fun c_55 => (absurd (zs_le.mp c_55) (by omega))) (fun c_55 => ?_)
      refine lv_dload hx hb d_Nu_put_59 (lv_at hl 2 rfl) ?_
      refine lv_dload hx hb d_Nu_put_61 (lv_at hl 4 rfl) ?_
      refine x_dcmp_ge (tgt := 84) hx hb d_Nu_put_63 d_Nu_put_64 (by decide) (by unfold dOk; have := nt_r (k := k) (by omega) (by omega); omega) (by unfold dOk; have := nt_r (k := k) (by omega) (by omega); omega) (fun c_63 => ?_) (fun c_63 => ?_)
      · have e_63 := (nt_le (k := k) (by omega) (by omega) (by omega)).mp c_63
        refine lv_iconst (v := iI 0) hx hb d_Nu_put_84 rfl ?_
        refine lv_istore (lv' := [(12, .int (iI 0)), (11, .int (iI (b - t))), (5, .double (dM k (q + t))), (9, .double (dM 1 53)), (7, .double (dM 1 52)), (0, .ref a), (1, .int (iI i)), (2, .double (dM k q)), (4, .int (iI b))]) hx hb d_Nu_put_85 hl (by decide) rfl (fun ls hl => ?_)
        refine lv_iload hx hb d_Nu_put_87 (lv_at hl 0 rfl) ?_
        refine lv_bipush (v := iI 120) hx hb d_Nu_put_89 (by decide +kernel) ?_
        refine x_icmp_ge (tgt := 119) hx hb d_Nu_put_91 (by decide) (by omega) (by omega) (fun c_91 => (by exfalso; omega)) (fun c_91 => ?_)
        refine lv_dload hx hb d_Nu_put_94 (lv_at hl 2 rfl) ?_
        refine lv_dload hx hb d_Nu_put_96 (lv_at hl 3 rfl) ?_
        refine x_dcmp_lt (tgt := 119) hx hb d_Nu_put_98 d_Nu_put_99 (by decide) (by unfold dOk; have := nt_r (k := k) (by omega) (by omega); omega) (by unfold dOk; have := nt_r (k := k) (by omega) (by omega); omega) (fun c_98 => ?_) (fun c_98 => (absurd (nt_lt (by omega) (by omega) (by omega) (by omega)) c_98))
        refine lv_dload hx hb d_Nu_put_119 (lv_at hl 2 rfl) ?_
        refine x_topd k (q + t) k (nt k : Int) (by rw [show q + t = (nt k : Int) by omega]) ?_
        refine x_d2l hx hb d_Nu_put_121 (by unfold dOk; have := nt_r (k := k) (by omega) (by omega); omega) (by have := nt_m (k := k) (by omega) (by omega); omega) ?_
        refine lv_lstore (lv' := [(12, .long (lI (k * 2 ^ (nt k)))), (11, .int (iI (b - t))), (5, .double (dM k (q + t))), (9, .double (dM 1 53)), (7, .double (dM 1 52)), (0, .ref a), (1, .int (iI i)), (2, .double (dM k q)), (4, .int (iI b))]) hx hb d_Nu_put_122 hl (by decide) rfl (fun ls hl => ?_)
        refine lv_aload_n hx hb d_Nu_put_124 rfl (lv_at hl 5 rfl) ?_
        refine va_get (D := D) (ci := 0) (v := .ref am) (C := R_Nu) (T := F_Nu) (N := 2) hx hb hts i_Nu hown hK hP 0 rfl rfl 0 (by decide) (hts _ wf_Nu_13) (fun _ h9 => h9) rfl d_Nu_put_125 ?_
        refine lv_iload_n hx hb d_Nu_put_128 rfl (lv_at hl 6 rfl) ?_
        refine lv_dload_n hx hb d_Nu_put_129 rfl (lv_at hl 7 rfl) ?_
        refine x_dconst0 hx hb d_Nu_put_130 ?_
        refine x_dcmp_ge (tgt := 141) hx hb d_Nu_put_131 d_Nu_put_132 (by decide) (by unfold dOk; omega) (by unfold dOk; omega) (fun c_131 => ?_) (fun c_131 => (absurd (zs_ge.mpr (by omega)) c_131))
        refine lv_lload hx hb d_Nu_put_141 (lv_at hl 0 rfl) ?_
        refine x_last hx hb hK hP hD hS 1 rfl (by omega) (hn) d_Nu_put_143 (fun H locs hP hD hS => ?_)
        have hP : va_P D CL [(a, .inr (0, [.ref am, .ref ae])), (am, eJ aC n (updI fm i (k * 2 ^ (nt k)))), (ae, eI aC n fe)] H := hP
        have hD : va_D (aW [(a, .inr (0, [.ref am, .ref ae])), (am, eJ aC n fm), (ae, eI aC n fe)]) [(a, .inr (0, [.ref am, .ref ae])), (am, eJ aC n (updI fm i (k * 2 ^ (nt k)))), (ae, eI aC n fe)] := hD
        refine lv_aload_n hx hb d_Nu_put_144 rfl (lv_at hl 5 rfl) ?_
        refine va_get (D := D) (ci := 0) (v := .ref ae) (C := R_Nu) (T := F_Nu) (N := 2) hx hb hts i_Nu hown hK hP 0 rfl rfl 1 (by decide) (hts _ wf_Nu_19) (fun _ h9 => h9) rfl d_Nu_put_145 ?_
        refine lv_iload_n hx hb d_Nu_put_148 rfl (lv_at hl 6 rfl) ?_
        refine lv_iload hx hb d_Nu_put_149 (lv_at hl 1 rfl) ?_
        refine x_top (b - t) (nx k q b) (by unfold nx; rw [if_neg (by omega)]; omega) ?_
        refine x_iast hx hb hK hP hD hS 2 rfl (by omega) (hn) d_Nu_put_151 (fun H locs hP hD hS => ?_)
        have hP : va_P D CL [(a, .inr (0, [.ref am, .ref ae])), (am, eJ aC n (updI fm i (k * 2 ^ (nt k)))), (ae, eI aC n (updI fe i (nx k q b)))] H := hP
        have hD : va_D (aW [(a, .inr (0, [.ref am, .ref ae])), (am, eJ aC n fm), (ae, eI aC n fe)]) [(a, .inr (0, [.ref am, .ref ae])), (am, eJ aC n (updI fm i (k * 2 ^ (nt k)))), (ae, eI aC n (updI fe i (nx k q b)))] := hD
        exact x_vret hx hb hr hlocks hQ (⟨rfl, rfl⟩) rfl hP hS d_Nu_put_152
      · have e_63 : ¬ (nt k : Int) ≤ q + t := fun z => c_63 ((nt_le (k := k) (by omega) (by omega) (by omega)).mpr z)
        refine lv_dload hx hb d_Nu_put_67 (lv_at hl 2 rfl) ?_
        refine x_ldc2d hx hb 1 1 (by decide +kernel) hown (hts _ wk_Nu_29) d_Nu_put_69 ?_
        refine x_dmul1 hx hb d_Nu_put_72 (by unfold dOk; have := nt_r (k := k) (by omega) (by omega); omega) (by unfold dOk; have := nt_r (k := k) (by omega) (by omega); omega) (by unfold dOk; have := nt_r (k := k) (by omega) (by omega); omega) ?_
        refine lv_dstore (lv' := [(5, .double (dM k ((q + t) + 1))), (12, .int (iI t)), (11, .int (iI (b - t))), (9, .double (dM 1 53)), (7, .double (dM 1 52)), (0, .ref a), (1, .int (iI i)), (2, .double (dM k q)), (4, .int (iI b))]) hx hb d_Nu_put_73 hl (by decide) rfl (fun ls hl => ?_)
        refine lv_iinc (v := iI (b - t + (-1))) (lv' := [(11, .int (iI (b - t + (-1)))), (5, .double (dM k ((q + t) + 1))), (12, .int (iI t)), (9, .double (dM 1 53)), (7, .double (dM 1 52)), (0, .ref a), (1, .int (iI i)), (2, .double (dM k q)), (4, .int (iI b))]) hx hb d_Nu_put_75 hl (k := 2) rfl (iI_add _ _) (by decide) rfl (fun ls hl => ?_)
        refine lv_iinc (v := iI (t + 1)) (lv' := [(12, .int (iI (t + 1))), (11, .int (iI (b - t + (-1)))), (5, .double (dM k ((q + t) + 1))), (9, .double (dM 1 53)), (7, .double (dM 1 52)), (0, .ref a), (1, .int (iI i)), (2, .double (dM k q)), (4, .int (iI b))]) hx hb d_Nu_put_78 hl (k := 2) rfl (iI_add _ _) (by decide) rfl (fun ls hl => ?_)
        refine lv_goto (tgt := 45) hx hb d_Nu_put_81 (by decide) ?_
        exact ih (t + 1) _ _ ls (by omega) (by omega) hP hD hS (by rw [show (b - (t + 1) : Int) = b - t + (-1) by omega, show (q + (t + 1) : Int) = (q + t) + 1 by omega]; exact lv_sub hl [0, 1, 2, 3, 4, 5, 6, 7, 8] rfl)
  exact L45 _ 0 _ _ ls (by omega) (n_lt _) hP hD hS (by rw [show (b - 0 : Int) = b by omega, show (q + 0 : Int) = q by omega]; exact lv_sub hl [0, 1, 4, 2, 3, 5, 6, 7, 8] rfl)
set_option maxHeartbeats 4000000 in
set_option maxRecDepth 100000 in
theorem c_Nu_put_n (l : Launch) (D : va_G) (aC : Nat → ClassId) (a am ae n : Nat) (fm fe : Int → Int) (i k q b : Int) (hi : 0 ≤ i ∧ i < (n : Int)) (hn : n < 2147483648) (hk : -4294967296 < k ∧ k < 4294967296) (hq : -3 ≤ q ∧ q ≤ 0) (hbb : -600 ≤ b ∧ b ≤ 600) (hs : k < 0) : CT l D aC y_Nu_put (rd 0 0) [.ref a, .int (iI i), .double (dM k q), .int (iI b)] [(a, .inr (0, [.ref am, .ref ae])), (am, eJ aC n fm), (ae, eI aC n fe)] (fun v w => v = none ∧ w = [(a, .inr (0, [.ref am, .ref ae])), (am, eJ aC n (updI fm i (k * 2 ^ nt k))), (ae, eI aC n (updI fe i (nx k q b)))]) := by
  refine CT.of (cc := b_Nu_put) (maxL := 14) (ret := none) (by decide +kernel) k_Nu_put (Nat.le_of_ble_eq_true rfl) ?_
  intro p e s m below meth c Q S hr hlocks hQ hK hN hP hD hS ls hl
  obtain ⟨hx, hb, hml, hown, hts⟩ := id S
  have hl : lv_has ls 14 [(0, .ref a), (1, .int (iI i)), (2, .double (dM k q)), (4, .int (iI b))] := hl
  have hnt := nt_r (k := -k) (by omega) (by omega)
  refine lv_iload_n hx hb d_Nu_put_0 rfl (lv_at hl 1 rfl) ?_
  refine x_if_lt (tgt := 13) hx hb d_Nu_put_1 (by decide) (by omega) (fun c_1 => (by exfalso; omega)) (fun c_1 => ?_)
  refine lv_iload_n hx hb d_Nu_put_4 rfl (lv_at hl 1 rfl) ?_
  refine lv_aload_n hx hb d_Nu_put_5 rfl (lv_at hl 0 rfl) ?_
  refine va_get (D := D) (ci := 0) (v := .ref am) (C := R_Nu) (T := F_Nu) (N := 2) hx hb hts i_Nu hown hK hP 0 rfl rfl 0 (by decide) (hts _ wf_Nu_13) (fun _ h9 => h9) rfl d_Nu_put_6 ?_
  refine x_alen hx hb hK hP 1 1 rfl rfl (n := n) rfl d_Nu_put_9 ?_
  refine x_icmp_lt (tgt := 14) hx hb d_Nu_put_10 (by decide) (by omega) (by omega) (fun c_10 => ?_) (fun c_10 => (by exfalso; omega))
  refine lv_dload_n hx hb d_Nu_put_14 rfl (lv_at hl 2 rfl) ?_
  refine x_dconst0 hx hb d_Nu_put_15 ?_
  refine x_dcmp_ge (tgt := 25) hx hb d_Nu_put_16 d_Nu_put_17 (by decide) (by unfold dOk; omega) (by unfold dOk; omega) (fun c_16 => (absurd (zs_ge.mp c_16) (by omega))) (fun c_16 => ?_)
  refine lv_dload_n hx hb d_Nu_put_20 rfl (lv_at hl 2 rfl) ?_
  refine x_dneg hx hb d_Nu_put_21 (by unfold dOk; omega) (by omega) ?_
  refine lv_goto (tgt := 26) hx hb d_Nu_put_22 (by decide) ?_
  refine lv_dstore (lv' := [(5, .double (dM (-k) q)), (0, .ref a), (1, .int (iI i)), (2, .double (dM k q)), (4, .int (iI b))]) hx hb d_Nu_put_26 hl (by decide) rfl (fun ls hl => ?_)
  refine x_ldc2d hx hb 1 52 (by decide +kernel) hown (hts _ wk_Nu_25) d_Nu_put_28 ?_
  refine lv_dstore (lv' := [(7, .double (dM 1 52)), (5, .double (dM (-k) q)), (0, .ref a), (1, .int (iI i)), (2, .double (dM k q)), (4, .int (iI b))]) hx hb d_Nu_put_31 hl (by decide) rfl (fun ls hl => ?_)
  refine x_ldc2d hx hb 1 53 (by decide +kernel) hown (hts _ wk_Nu_27) d_Nu_put_33 ?_
  refine lv_dstore (lv' := [(9, .double (dM 1 53)), (7, .double (dM 1 52)), (5, .double (dM (-k) q)), (0, .ref a), (1, .int (iI i)), (2, .double (dM k q)), (4, .int (iI b))]) hx hb d_Nu_put_36 hl (by decide) rfl (fun ls hl => ?_)
  refine lv_iload hx hb d_Nu_put_38 (lv_at hl 6 rfl) ?_
  refine lv_istore (lv' := [(11, .int (iI b)), (9, .double (dM 1 53)), (7, .double (dM 1 52)), (5, .double (dM (-k) q)), (0, .ref a), (1, .int (iI i)), (2, .double (dM k q)), (4, .int (iI b))]) hx hb d_Nu_put_40 hl (by decide) rfl (fun ls hl => ?_)
  refine lv_iconst (v := iI 0) hx hb d_Nu_put_42 rfl ?_
  refine lv_istore (lv' := [(12, .int (iI 0)), (11, .int (iI b)), (9, .double (dM 1 53)), (7, .double (dM 1 52)), (5, .double (dM (-k) q)), (0, .ref a), (1, .int (iI i)), (2, .double (dM k q)), (4, .int (iI b))]) hx hb d_Nu_put_43 hl (by decide) rfl (fun ls hl => ?_)
  have L45 : ∀ (nn : Nat) (t : Int) (H : Heap) (locs : List Loc) (ls : Array Slot), (0 ≤ t ∧ t ≤ (nt (-k) : Int) - q) → (nt (-k) : Int) - q - t < (nn : Int) → va_P D CL [(a, .inr (0, [.ref am, .ref ae])), (am, eJ aC n fm), (ae, eI aC n fe)] H → va_D (aW [(a, .inr (0, [.ref am, .ref ae])), (am, eJ aC n fm), (ae, eI aC n fe)]) [(a, .inr (0, [.ref am, .ref ae])), (am, eJ aC n fm), (ae, eI aC n fe)] → va_S (aW [(a, .inr (0, [.ref am, .ref ae])), (am, eJ aC n fm), (ae, eI aC n fe)]) s.heap H locs → lv_has ls 14 [(12, .int (iI t)), (11, .int (iI (b - t))), (5, .double (dM (-k) (q + t))), (9, .double (dM 1 53)), (7, .double (dM 1 52)), (0, .ref a), (1, .int (iI i)), (2, .double (dM k q)), (4, .int (iI b))] → W p l e (rd 0 0) s m ([.ref a, .int (iI i), .double (dM k q), .int (iI b)]).toArray below meth c H locs 0 0 Q (F0 m 45 ls []) := by
    intro nn
    induction nn with
    | zero => intro t H locs ls ht hnn; exact absurd hnn (by omega)
    | succ nn ih =>
      intro t H locs ls ht hnn hP hD hS hl
      refine lv_iload hx hb d_Nu_put_45 (lv_at hl 0 rfl) ?_
      refine lv_bipush (v := iI 120) hx hb d_Nu_put_47 (by decide +kernel) ?_
      refine x_icmp_ge (tgt := 84) hx hb d_Nu_put_49 (by decide) (by omega) (by omega) (fun c_49 => (by exfalso; omega)) (fun c_49 => ?_)
      refine lv_dload hx hb d_Nu_put_52 (lv_at hl 2 rfl) ?_
      refine x_dconst0 hx hb d_Nu_put_54 ?_
      refine x_dcmp_le (tgt := 84) hx hb d_Nu_put_55 d_Nu_put_56 (by decide) (by unfold dOk; have := nt_r (k := -k) (by omega) (by omega); omega) (by unfold dOk; have := nt_r (k := -k) (by omega) (by omega); omega) (fun c_55 => (absurd (zs_le.mp c_55) (by omega))) (fun c_55 => ?_)
      refine lv_dload hx hb d_Nu_put_59 (lv_at hl 2 rfl) ?_
      refine lv_dload hx hb d_Nu_put_61 (lv_at hl 4 rfl) ?_
      refine x_dcmp_ge (tgt := 84) hx hb d_Nu_put_63 d_Nu_put_64 (by decide) (by unfold dOk; have := nt_r (k := -k) (by omega) (by omega); omega) (by unfold dOk; have := nt_r (k := -k) (by omega) (by omega); omega) (fun c_63 => ?_) (fun c_63 => ?_)
      · have e_63 := (nt_le (k := -k) (by omega) (by omega) (by omega)).mp c_63
        refine lv_iconst (v := iI 0) hx hb d_Nu_put_84 rfl ?_
        refine lv_istore (lv' := [(12, .int (iI 0)), (11, .int (iI (b - t))), (5, .double (dM (-k) (q + t))), (9, .double (dM 1 53)), (7, .double (dM 1 52)), (0, .ref a), (1, .int (iI i)), (2, .double (dM k q)), (4, .int (iI b))]) hx hb d_Nu_put_85 hl (by decide) rfl (fun ls hl => ?_)
        refine lv_iload hx hb d_Nu_put_87 (lv_at hl 0 rfl) ?_
        refine lv_bipush (v := iI 120) hx hb d_Nu_put_89 (by decide +kernel) ?_
        refine x_icmp_ge (tgt := 119) hx hb d_Nu_put_91 (by decide) (by omega) (by omega) (fun c_91 => (by exfalso; omega)) (fun c_91 => ?_)
        refine lv_dload hx hb d_Nu_put_94 (lv_at hl 2 rfl) ?_
        refine lv_dload hx hb d_Nu_put_96 (lv_at hl 3 rfl) ?_
        refine x_dcmp_lt (tgt := 119) hx hb d_Nu_put_98 d_Nu_put_99 (by decide) (by unfold dOk; have := nt_r (k := -k) (by omega) (by omega); omega) (by unfold dOk; have := nt_r (k := -k) (by omega) (by omega); omega) (fun c_98 => ?_) (fun c_98 => (absurd (nt_lt (by omega) (by omega) (by omega) (by omega)) c_98))
        refine lv_dload hx hb d_Nu_put_119 (lv_at hl 2 rfl) ?_
        refine x_topd (-k) (q + t) (-k) (nt (-k) : Int) (by rw [show q + t = (nt (-k) : Int) by omega]) ?_
        refine x_d2l hx hb d_Nu_put_121 (by unfold dOk; have := nt_r (k := -k) (by omega) (by omega); omega) (by have := nt_m (k := -k) (by omega) (by omega); omega) ?_
        refine lv_lstore (lv' := [(12, .long (lI ((-k) * 2 ^ (nt (-k))))), (11, .int (iI (b - t))), (5, .double (dM (-k) (q + t))), (9, .double (dM 1 53)), (7, .double (dM 1 52)), (0, .ref a), (1, .int (iI i)), (2, .double (dM k q)), (4, .int (iI b))]) hx hb d_Nu_put_122 hl (by decide) rfl (fun ls hl => ?_)
        refine lv_aload_n hx hb d_Nu_put_124 rfl (lv_at hl 5 rfl) ?_
        refine va_get (D := D) (ci := 0) (v := .ref am) (C := R_Nu) (T := F_Nu) (N := 2) hx hb hts i_Nu hown hK hP 0 rfl rfl 0 (by decide) (hts _ wf_Nu_13) (fun _ h9 => h9) rfl d_Nu_put_125 ?_
        refine lv_iload_n hx hb d_Nu_put_128 rfl (lv_at hl 6 rfl) ?_
        refine lv_dload_n hx hb d_Nu_put_129 rfl (lv_at hl 7 rfl) ?_
        refine x_dconst0 hx hb d_Nu_put_130 ?_
        refine x_dcmp_ge (tgt := 141) hx hb d_Nu_put_131 d_Nu_put_132 (by decide) (by unfold dOk; omega) (by unfold dOk; omega) (fun c_131 => (absurd (zs_ge.mp c_131) (by omega))) (fun c_131 => ?_)
        refine lv_lload hx hb d_Nu_put_135 (lv_at hl 0 rfl) ?_
        refine x_lneg hx hb d_Nu_put_137 ?_
        refine lv_goto (tgt := 143) hx hb d_Nu_put_138 (by decide) ?_
        refine x_topl (-((-k) * 2 ^ (nt (-k)))) (k * 2 ^ nt k) (by rw [nt_neg]; rw [Int.neg_mul, Int.neg_neg]) ?_
        refine x_last hx hb hK hP hD hS 1 rfl (by omega) (hn) d_Nu_put_143 (fun H locs hP hD hS => ?_)
        have hP : va_P D CL [(a, .inr (0, [.ref am, .ref ae])), (am, eJ aC n (updI fm i (k * 2 ^ nt k))), (ae, eI aC n fe)] H := hP
        have hD : va_D (aW [(a, .inr (0, [.ref am, .ref ae])), (am, eJ aC n fm), (ae, eI aC n fe)]) [(a, .inr (0, [.ref am, .ref ae])), (am, eJ aC n (updI fm i (k * 2 ^ nt k))), (ae, eI aC n fe)] := hD
        refine lv_aload_n hx hb d_Nu_put_144 rfl (lv_at hl 5 rfl) ?_
        refine va_get (D := D) (ci := 0) (v := .ref ae) (C := R_Nu) (T := F_Nu) (N := 2) hx hb hts i_Nu hown hK hP 0 rfl rfl 1 (by decide) (hts _ wf_Nu_19) (fun _ h9 => h9) rfl d_Nu_put_145 ?_
        refine lv_iload_n hx hb d_Nu_put_148 rfl (lv_at hl 6 rfl) ?_
        refine lv_iload hx hb d_Nu_put_149 (lv_at hl 1 rfl) ?_
        refine x_top (b - t) (nx k q b) (by unfold nx; rw [if_neg (by omega)]; have := nt_neg k; omega) ?_
        refine x_iast hx hb hK hP hD hS 2 rfl (by omega) (hn) d_Nu_put_151 (fun H locs hP hD hS => ?_)
        have hP : va_P D CL [(a, .inr (0, [.ref am, .ref ae])), (am, eJ aC n (updI fm i (k * 2 ^ nt k))), (ae, eI aC n (updI fe i (nx k q b)))] H := hP
        have hD : va_D (aW [(a, .inr (0, [.ref am, .ref ae])), (am, eJ aC n fm), (ae, eI aC n fe)]) [(a, .inr (0, [.ref am, .ref ae])), (am, eJ aC n (updI fm i (k * 2 ^ nt k))), (ae, eI aC n (updI fe i (nx k q b)))] := hD
        exact x_vret hx hb hr hlocks hQ (⟨rfl, rfl⟩) rfl hP hS d_Nu_put_152
      · have e_63 : ¬ (nt (-k) : Int) ≤ q + t := fun z => c_63 ((nt_le (k := -k) (by omega) (by omega) (by omega)).mpr z)
        refine lv_dload hx hb d_Nu_put_67 (lv_at hl 2 rfl) ?_
        refine x_ldc2d hx hb 1 1 (by decide +kernel) hown (hts _ wk_Nu_29) d_Nu_put_69 ?_
        refine x_dmul1 hx hb d_Nu_put_72 (by unfold dOk; have := nt_r (k := -k) (by omega) (by omega); omega) (by unfold dOk; have := nt_r (k := -k) (by omega) (by omega); omega) (by unfold dOk; have := nt_r (k := -k) (by omega) (by omega); omega) ?_
        refine lv_dstore (lv' := [(5, .double (dM (-k) ((q + t) + 1))), (12, .int (iI t)), (11, .int (iI (b - t))), (9, .double (dM 1 53)), (7, .double (dM 1 52)), (0, .ref a), (1, .int (iI i)), (2, .double (dM k q)), (4, .int (iI b))]) hx hb d_Nu_put_73 hl (by decide) rfl (fun ls hl => ?_)
        refine lv_iinc (v := iI (b - t + (-1))) (lv' := [(11, .int (iI (b - t + (-1)))), (5, .double (dM (-k) ((q + t) + 1))), (12, .int (iI t)), (9, .double (dM 1 53)), (7, .double (dM 1 52)), (0, .ref a), (1, .int (iI i)), (2, .double (dM k q)), (4, .int (iI b))]) hx hb d_Nu_put_75 hl (k := 2) rfl (iI_add _ _) (by decide) rfl (fun ls hl => ?_)
        refine lv_iinc (v := iI (t + 1)) (lv' := [(12, .int (iI (t + 1))), (11, .int (iI (b - t + (-1)))), (5, .double (dM (-k) ((q + t) + 1))), (9, .double (dM 1 53)), (7, .double (dM 1 52)), (0, .ref a), (1, .int (iI i)), (2, .double (dM k q)), (4, .int (iI b))]) hx hb d_Nu_put_78 hl (k := 2) rfl (iI_add _ _) (by decide) rfl (fun ls hl => ?_)
        refine lv_goto (tgt := 45) hx hb d_Nu_put_81 (by decide) ?_
        exact ih (t + 1) _ _ ls (by omega) (by omega) hP hD hS (by rw [show (b - (t + 1) : Int) = b - t + (-1) by omega, show (q + (t + 1) : Int) = (q + t) + 1 by omega]; exact lv_sub hl [0, 1, 2, 3, 4, 5, 6, 7, 8] rfl)
  exact L45 _ 0 _ _ ls (by omega) (n_lt _) hP hD hS (by rw [show (b - 0 : Int) = b by omega, show (q + 0 : Int) = q by omega]; exact lv_sub hl [0, 1, 4, 2, 3, 5, 6, 7, 8] rfl)
theorem c_Nu_put (l : Launch) (D : va_G) (aC : Nat → ClassId) (a am ae n : Nat) (fm fe : Int → Int) (i k q b : Int) (hi : 0 ≤ i ∧ i < (n : Int)) (hn : n < 2147483648) (hk : -4294967296 < k ∧ k < 4294967296) (hq : -3 ≤ q ∧ q ≤ 0) (hbb : -600 ≤ b ∧ b ≤ 600) : CT l D aC y_Nu_put (rd 0 0) [.ref a, .int (iI i), .double (dM k q), .int (iI b)] [(a, .inr (0, [.ref am, .ref ae])), (am, eJ aC n fm), (ae, eI aC n fe)] (fun v w => v = none ∧ w = [(a, .inr (0, [.ref am, .ref ae])), (am, eJ aC n (updI fm i (k * 2 ^ nt k))), (ae, eI aC n (updI fe i (nx k q b)))]) := by
  rcases (show k = 0 ∨ 0 < k ∨ k < 0 by omega) with h | h | h
  · exact c_Nu_put_0 l D aC a am ae n fm fe i k q b hi hn hk hq hbb h
  · exact c_Nu_put_p l D aC a am ae n fm fe i k q b hi hn hk hq hbb h
  · exact c_Nu_put_n l D aC a am ae n fm fe i k q b hi hn hk hq hbb h
