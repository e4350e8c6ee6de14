theorem ng_step {h f : Int → Int} {t cy S : Int} (ht : 0 ≤ t) (hS : cy + (65535 - f t) = S) (e : dg 16 h t.toNat + dg 16 f t.toNat + cy * 2 ^ (16 * t.toNat) = 2 ^ (16 * t.toNat)) : dg 16 (updI h t (S % 65536)) (t + 1).toNat + dg 16 f (t + 1).toNat + S / 65536 * 2 ^ (16 * (t + 1).toNat) = 2 ^ (16 * (t + 1).toNat) := by
  rw [show (t + 1).toNat = t.toNat + 1 by omega]
  show dg 16 (updI h t (S % 65536)) t.toNat + updI h t (S % 65536) (t.toNat : Int) * 2 ^ (16 * t.toNat) + (dg 16 f t.toNat + f (t.toNat : Int) * 2 ^ (16 * t.toNat)) + _ = _
  rw [show ((t.toNat : Nat) : Int) = t by omega, dg_out (by omega), updI_s, show 16 * (t.toNat + 1) = 16 * t.toNat + 16 by omega, p2_add, p16]
  generalize (2 : Int) ^ (16 * t.toNat) = w at *
  have e2 : S % 65536 * w + S / 65536 * (w * 65536) = S * w := by
    have := emod_add_div S 65536
    rw [← Int.mul_assoc, Int.mul_comm (S / 65536) w, Int.mul_comm (S % 65536) w, Int.mul_assoc, ← Int.mul_add, Int.mul_comm (S / 65536) 65536, this, Int.mul_comm]
  have e3 : S * w = cy * w + (65535 * w - f t * w) := by rw [← hS, Int.add_mul, Int.sub_mul]
  omega
theorem ng_end {h f : Int → Int} {cy V : Int} (hr : ∀ j : Int, 0 ≤ j → j < 440 → 0 ≤ h j ∧ h j < 65536) (hf : SumOk f V) (e : dg 16 h 440 + dg 16 f 440 + cy * 2 ^ (16 * 440) = 2 ^ (16 * 440)) : SumOk h (-V) := by
  rw [bigM_16] at e
  have hn : nrm 16 h 440 := fun j a b => by rw [p16]; exact hr j a b
  refine ⟨hn, ?_⟩
  obtain ⟨r1, r2⟩ := dg_range 440 hn
  rw [bigM_16] at r2
  have hV := hf.2
  have d := emod_add_div V bigM
  have e5 : -V = dg 16 h 440 + bigM * (cy - 1 - V / bigM) := by
    rw [Int.mul_sub, Int.mul_sub, Int.mul_comm bigM cy, Int.mul_one]
    omega
  rw [e5, Int.add_mul_emod_self_left, Int.emod_eq_of_lt r1 r2]

set_option maxHeartbeats 4000000 in
set_option maxRecDepth 100000 in
theorem c_Mo_negate (l : Launch) (D : va_G) (aC : Nat → ClassId) (b : Nat → Nat) (M : MS) (er p2 : Int) (f : Int → Int) (V : Int) (hf : SumOk f V) : CT l D aC y_Mo_negate (rd 0 0) [.ref (b 0)] [(b 16, eI aC 440 f), (b 0, .inr (6, [.int (iI er), .int (iI M.rw), .int (iI M.cn), .int (iI M.en), .int (iI M.pr), .double (dM M.ko (-3)), .ref (b 1), .ref (b 2), .ref (b 3), .ref (b 4), .ref (b 5), .ref (b 6), .ref (b 7), .ref (b 8), .ref (b 9), .ref (b 10), .ref (b 11), .ref (b 12), .ref (b 13), .ref (b 14), .ref (b 15), .int (iI p2), .ref (b 16), .ref (b 17), .ref (b 18), .ref (b 19), .ref (b 20), .ref (b 21), .ref (b 22)]))] (fun v w => v = none ∧ ∃ h : Int → Int, w = [(b 16, eI aC 440 h), (b 0, .inr (6, [.int (iI er), .int (iI M.rw), .int (iI M.cn), .int (iI M.en), .int (iI M.pr), .double (dM M.ko (-3)), .ref (b 1), .ref (b 2), .ref (b 3), .ref (b 4), .ref (b 5), .ref (b 6), .ref (b 7), .ref (b 8), .ref (b 9), .ref (b 10), .ref (b 11), .ref (b 12), .ref (b 13), .ref (b 14), .ref (b 15), .int (iI p2), .ref (b 16), .ref (b 17), .ref (b 18), .ref (b 19), .ref (b 20), .ref (b 21), .ref (b 22)]))] ∧ SumOk h (-V)) := by
  refine CT.of (cc := b_Mo_negate) (maxL := 3) (ret := none) (by decide +kernel) k_Mo_negate (Nat.le_of_ble_eq_true rfl) ?_
  intro p e s m below meth c Q S hr hlocks hQ hK hN hP hD hS ls hl
  obtain ⟨hx, hb, hml, hown, hts⟩ := id S
  have hl : lv_has ls 3 [(0, .ref (b 0))] := hl
  have hfr : ∀ j : Int, 0 ≤ j → j < 440 → 0 ≤ f j ∧ f j < 65536 := fun j h1 h2 => by have := hf.1 j h1 h2; rw [p16] at this; exact this
  refine lv_iconst (v := iI 1) hx hb d_Mo_negate_0 rfl ?_
  refine lv_istore_n (lv' := [(1, .int (iI 1)), (0, .ref (b 0))]) hx hb d_Mo_negate_1 rfl hl (by decide) rfl (fun ls hl => ?_)
  refine lv_iconst (v := iI 0) hx hb d_Mo_negate_2 rfl ?_
  refine lv_istore_n (lv' := [(2, .int (iI 0)), (1, .int (iI 1)), (0, .ref (b 0))]) hx hb d_Mo_negate_3 rfl hl (by decide) rfl (fun ls hl => ?_)
  have L4 : ∀ (nn : Nat) (t : Int) (cy : Int) (h : Int → Int) (H : Heap) (locs : List Loc) (ls : Array Slot), (0 ≤ t ∧ t ≤ 440) → (0 ≤ cy ∧ cy ≤ 1) → (∀ j : Int, 0 ≤ j → j < 440 → 0 ≤ h j ∧ h j < 65536) → (∀ j : Int, t ≤ j → j < 440 → h j = f j) → (dg 16 h t.toNat + dg 16 f t.toNat + cy * 2 ^ (16 * t.toNat) = 2 ^ (16 * t.toNat)) → 440 - t < (nn : Int) → va_P D CL [(b 16, eI aC 440 h), (b 0, .inr (6, [.int (iI er), .int (iI M.rw), .int (iI M.cn), .int (iI M.en), .int (iI M.pr), .double (dM M.ko (-3)), .ref (b 1), .ref (b 2), .ref (b 3), .ref (b 4), .ref (b 5), .ref (b 6), .ref (b 7), .ref (b 8), .ref (b 9), .ref (b 10), .ref (b 11), .ref (b 12), .ref (b 13), .ref (b 14), .ref (b 15), .int (iI p2), .ref (b 16), .ref (b 17), .ref (b 18), .ref (b 19), .ref (b 20), .ref (b 21), .ref (b 22)]))] H → va_D (aW [(b 16, eI aC 440 f), (b 0, .inr (6, [.int (iI er), .int (iI M.rw), .int (iI M.cn), .int (iI M.en), .int (iI M.pr), .double (dM M.ko (-3)), .ref (b 1), .ref (b 2), .ref (b 3), .ref (b 4), .ref (b 5), .ref (b 6), .ref (b 7), .ref (b 8), .ref (b 9), .ref (b 10), .ref (b 11), .ref (b 12), .ref (b 13), .ref (b 14), .ref (b 15), .int (iI p2), .ref (b 16), .ref (b 17), .ref (b 18), .ref (b 19), .ref (b 20), .ref (b 21), .ref (b 22)]))]) [(b 16, eI aC 440 h), (b 0, .inr (6, [.int (iI er), .int (iI M.rw), .int (iI M.cn), .int (iI M.en), .int (iI M.pr), .double (dM M.ko (-3)), .ref (b 1), .ref (b 2), .ref (b 3), .ref (b 4), .ref (b 5), .ref (b 6), .ref (b 7), .ref (b 8), .ref (b 9), .ref (b 10), .ref (b 11), .ref (b 12), .ref (b 13), .ref (b 14), .ref (b 15), .int (iI p2), .ref (b 16), .ref (b 17), .ref (b 18), .ref (b 19), .ref (b 20), .ref (b 21), .ref (b 22)]))] → va_S (aW [(b 16, eI aC 440 f), (b 0, .inr (6, [.int (iI er), .int (iI M.rw), .int (iI M.cn), .int (iI M.en), .int (iI M.pr), .double (dM M.ko (-3)), .ref (b 1), .ref (b 2), .ref (b 3), .ref (b 4), .ref (b 5), .ref (b 6), .ref (b 7), .ref (b 8), .ref (b 9), .ref (b 10), .ref (b 11), .ref (b 12), .ref (b 13), .ref (b 14), .ref (b 15), .int (iI p2), .ref (b 16), .ref (b 17), .ref (b 18), .ref (b 19), .ref (b 20), .ref (b 21), .ref (b 22)]))]) s.heap H locs → lv_has ls 3 [(2, .int (iI t)), (1, .int (iI cy)), (0, .ref (b 0))] → W p l e (rd 0 0) s m ([.ref (b 0)]).toArray below meth c H locs 0 0 Q (F0 m 4 ls []) := by
    intro nn
    induction nn with
    | zero => intro t cy h H locs ls ht hc hr9 hsm hsum hnn; exact absurd hnn (by omega)
    | succ nn ih =>
      intro t cy h H locs ls ht hc hr9 hsm hsum hnn hP hD hS hl
      refine lv_iload_n hx hb d_Mo_negate_4 rfl (lv_at hl 0 rfl) ?_
      refine lv_sipush (v := iI 440) hx hb d_Mo_negate_5 (by decide +kernel) ?_
      refine x_icmp_ge (tgt := 46) hx hb d_Mo_negate_8 (by decide) (by omega) (by omega) (fun c_8 => ?_) (fun c_8 => ?_)
      · exact x_vret hx hb hr hlocks hQ (⟨rfl, h, rfl, ng_end hr9 hf (by rw [show t = 440 by omega] at hsum; exact hsum)⟩) rfl hP hS d_Mo_negate_46
      · refine lv_iload_n hx hb d_Mo_negate_11 rfl (lv_at hl 1 rfl) ?_
        refine lv_aload_n hx hb d_Mo_negate_12 rfl (lv_at hl 2 rfl) ?_
        refine va_get (D := D) (ci := 6) (v := .ref (b 16)) (C := R_Mo) (T := F_Mo) (N := 29) hx hb hts i_Mo hown hK hP 1 rfl rfl 22 (by decide) (hts _ wf_Mo_56) (fun _ h9 => h9) rfl d_Mo_negate_13 ?_
        refine lv_iload_n hx hb d_Mo_negate_16 rfl (lv_at hl 0 rfl) ?_
        have hht := hsm t (by omega) (by omega)
        have hft := hfr t (by omega) (by omega)
        refine x_iald hx hb hK hP 0 rfl (by omega) (by decide) d_Mo_negate_17 ?_
        refine lv_iconst (v := iI (-1)) hx hb d_Mo_negate_18 rfl ?_
        refine x_ixor (v := (-(h t) - 1)) hx hb d_Mo_negate_19 (iI_not _) ?_
        refine x_ldc hx hb 65535 (by decide +kernel) hown (hts _ wk_Mo_88) d_Mo_negate_20 ?_
        refine x_iand (v := ((-(h t) - 1) % 65536)) hx hb d_Mo_negate_22 (iI_m16 _) ?_
        refine x_top ((-(h t) - 1) % 65536) (65535 - f t) (by rw [hht]; omega) ?_
        refine x_iadd hx hb d_Mo_negate_23 ?_
        obtain ⟨S2, hSd⟩ : ∃ z : Int, cy + (65535 - f t) = z := ⟨_, rfl⟩
        refine x_top _ S2 hSd ?_
        refine lv_istore_n (lv' := [(1, .int (iI S2)), (2, .int (iI t)), (0, .ref (b 0))]) hx hb d_Mo_negate_24 rfl hl (by decide) rfl (fun ls hl => ?_)
        refine lv_aload_n hx hb d_Mo_negate_25 rfl (lv_at hl 2 rfl) ?_
        refine va_get (D := D) (ci := 6) (v := .ref (b 16)) (C := R_Mo) (T := F_Mo) (N := 29) hx hb hts i_Mo hown hK hP 1 rfl rfl 22 (by decide) (hts _ wf_Mo_56) (fun _ h9 => h9) rfl d_Mo_negate_26 ?_
        refine lv_iload_n hx hb d_Mo_negate_29 rfl (lv_at hl 1 rfl) ?_
        refine lv_iload_n hx hb d_Mo_negate_30 rfl (lv_at hl 0 rfl) ?_
        refine x_ldc hx hb 65535 (by decide +kernel) hown (hts _ wk_Mo_88) d_Mo_negate_31 ?_
        refine x_iand (v := (S2 % 65536)) hx hb d_Mo_negate_33 (iI_m16 _) ?_
        refine x_iast hx hb hK hP hD hS 0 rfl (by omega) (by decide) d_Mo_negate_34 (fun H locs hP hD hS => ?_)
        have hP : va_P D CL [(b 16, eI aC 440 (updI h t (S2 % 65536))), (b 0, .inr (6, [.int (iI er), .int (iI M.rw), .int (iI M.cn), .int (iI M.en), .int (iI M.pr), .double (dM M.ko (-3)), .ref (b 1), .ref (b 2), .ref (b 3), .ref (b 4), .ref (b 5), .ref (b 6), .ref (b 7), .ref (b 8), .ref (b 9), .ref (b 10), .ref (b 11), .ref (b 12), .ref (b 13), .ref (b 14), .ref (b 15), .int (iI p2), .ref (b 16), .ref (b 17), .ref (b 18), .ref (b 19), .ref (b 20), .ref (b 21), .ref (b 22)]))] H := hP
        have hD : va_D (aW [(b 16, eI aC 440 f), (b 0, .inr (6, [.int (iI er), .int (iI M.rw), .int (iI M.cn), .int (iI M.en), .int (iI M.pr), .double (dM M.ko (-3)), .ref (b 1), .ref (b 2), .ref (b 3), .ref (b 4), .ref (b 5), .ref (b 6), .ref (b 7), .ref (b 8), .ref (b 9), .ref (b 10), .ref (b 11), .ref (b 12), .ref (b 13), .ref (b 14), .ref (b 15), .int (iI p2), .ref (b 16), .ref (b 17), .ref (b 18), .ref (b 19), .ref (b 20), .ref (b 21), .ref (b 22)]))]) [(b 16, eI aC 440 (updI h t (S2 % 65536))), (b 0, .inr (6, [.int (iI er), .int (iI M.rw), .int (iI M.cn), .int (iI M.en), .int (iI M.pr), .double (dM M.ko (-3)), .ref (b 1), .ref (b 2), .ref (b 3), .ref (b 4), .ref (b 5), .ref (b 6), .ref (b 7), .ref (b 8), .ref (b 9), .ref (b 10), .ref (b 11), .ref (b 12), .ref (b 13), .ref (b 14), .ref (b 15), .int (iI p2), .ref (b 16), .ref (b 17), .ref (b 18), .ref (b 19), .ref (b 20), .ref (b 21), .ref (b 22)]))] := hD
        refine lv_iload_n hx hb d_Mo_negate_35 rfl (lv_at hl 0 rfl) ?_
        refine lv_bipush (v := iI 16) hx hb d_Mo_negate_36 (by decide +kernel) ?_
        refine x_ishr hx hb d_Mo_negate_38 (by omega) (by omega) ?_
        refine x_top _ (S2 / 65536) rfl ?_
        refine lv_istore_n (lv' := [(1, .int (iI (S2 / 65536))), (2, .int (iI t)), (0, .ref (b 0))]) hx hb d_Mo_negate_39 rfl hl (by decide) rfl (fun ls hl => ?_)
        refine lv_iinc (v := iI (t + 1)) (lv' := [(2, .int (iI (t + 1))), (1, .int (iI (S2 / 65536))), (0, .ref (b 0))]) hx hb d_Mo_negate_40 hl (k := 1) rfl (iI_add _ _) (by decide) rfl (fun ls hl => ?_)
        refine lv_goto (tgt := 4) hx hb d_Mo_negate_43 (by decide) ?_
        exact ih (t + 1) (S2 / 65536) (updI h t (S2 % 65536)) _ _ ls (by omega) (by omega) (fun j h1 h2 => by
          by_cases hj : j = t
          · rw [hj, updI_s]; omega
          · rw [updI_n hj]; exact hr9 j h1 h2) (fun j h1 h2 => by rw [updI_n (by omega)]; exact hsm j (by omega) h2) (ng_step (by omega) hSd hsum) (by omega) hP hD hS (lv_sub hl [0, 1, 2] rfl)
  exact L4 _ 0 1 f _ _ ls (by omega) (by omega) (hfr) (fun j h1 h2 => rfl) (by show 0 + 0 + 1 * 2 ^ (16 * 0) = 2 ^ (16 * 0); decide) (n_lt _) hP hD hS (lv_sub hl [0, 1, 2] rfl)
