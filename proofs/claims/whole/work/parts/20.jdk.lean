set_option maxHeartbeats 4000000 in
set_option maxRecDepth 100000 in
theorem c_floorDiv (l : Launch) (D : va_G) (aC : Nat → ClassId) (x : Int) (hxx : 0 ≤ x ∧ x < 2147483648) : CR l D aC y_Ma_floorDiv_III (rd 0 0) [.int (iI x), .int (iI 27)] [] (fun v => v = some (.int (iI (x / 27)))) := by
  refine CR.of (cc := b_Ma_floorDiv_III) (maxL := 3) (ret := (some .int)) (by decide +kernel) k_Ma_floorDiv_III (Nat.le_of_ble_eq_true rfl) ?_
  intro p e s m below meth c Q S hr hlocks hQ hK hN hP ls hl
  obtain ⟨hx, hb, hml, hown, hts⟩ := id S
  have hl : lv_has ls 3 [(0, .int (iI x)), (1, .int (iI 27))] := hl
  refine lv_iload_n hx hb d_Ma_floorDiv_III_0 rfl (lv_at hl 0 rfl) ?_
  refine lv_iload_n hx hb d_Ma_floorDiv_III_1 rfl (lv_at hl 1 rfl) ?_
  refine x_idiv hx hb d_Ma_floorDiv_III_2 (by omega) (by omega) ?_
  refine lv_istore_n (lv' := [(2, .int (iI (x / 27))), (0, .int (iI x)), (1, .int (iI 27))]) hx hb d_Ma_floorDiv_III_3 rfl hl (by decide) rfl (fun ls hl => ?_)
  refine lv_iload_n hx hb d_Ma_floorDiv_III_4 rfl (lv_at hl 1 rfl) ?_
  refine lv_iload_n hx hb d_Ma_floorDiv_III_5 rfl (lv_at hl 2 rfl) ?_
  obtain ⟨xv, hxv, exv⟩ := iI_xor_nn (a := x) (b := 27) (by omega) (by omega)
  refine x_ixor (v := xv) hx hb d_Ma_floorDiv_III_6 (exv) ?_
  refine x_if_ge (tgt := 21) hx hb d_Ma_floorDiv_III_7 (by decide) (by omega) (fun c_7 => ?_) (fun c_7 => (by exfalso; omega))
  refine lv_iload_n hx hb d_Ma_floorDiv_III_21 rfl (lv_at hl 0 rfl) ?_
  exact y_iret hx hb hr hlocks hQ (rfl) d_Ma_floorDiv_III_22
set_option maxHeartbeats 4000000 in
set_option maxRecDepth 100000 in
theorem c_floorMod (l : Launch) (D : va_G) (aC : Nat → ClassId) (x : Int) (hxx : 0 ≤ x ∧ x < 2147483648) : CR l D aC y_Ma_floorMod_III (rd 0 0) [.int (iI x), .int (iI 27)] [] (fun v => v = some (.int (iI (x % 27)))) := by
  refine CR.of (cc := b_Ma_floorMod_III) (maxL := 3) (ret := (some .int)) (by decide +kernel) k_Ma_floorMod_III (Nat.le_of_ble_eq_true rfl) ?_
  intro p e s m below meth c Q S hr hlocks hQ hK hN hP ls hl
  obtain ⟨hx, hb, hml, hown, hts⟩ := id S
  have hl : lv_has ls 3 [(0, .int (iI x)), (1, .int (iI 27))] := hl
  refine lv_iload_n hx hb d_Ma_floorMod_III_0 rfl (lv_at hl 0 rfl) ?_
  refine lv_iload_n hx hb d_Ma_floorMod_III_1 rfl (lv_at hl 1 rfl) ?_
  refine x_irem hx hb d_Ma_floorMod_III_2 (by omega) (by omega) ?_
  refine lv_istore_n (lv' := [(2, .int (iI (x % 27))), (0, .int (iI x)), (1, .int (iI 27))]) hx hb d_Ma_floorMod_III_3 rfl hl (by decide) rfl (fun ls hl => ?_)
  refine lv_iload_n hx hb d_Ma_floorMod_III_4 rfl (lv_at hl 1 rfl) ?_
  refine lv_iload_n hx hb d_Ma_floorMod_III_5 rfl (lv_at hl 2 rfl) ?_
  obtain ⟨xv, hxv, exv⟩ := iI_xor_nn (a := x) (b := 27) (by omega) (by omega)
  refine x_ixor (v := xv) hx hb d_Ma_floorMod_III_6 (exv) ?_
  refine x_if_ge (tgt := 18) hx hb d_Ma_floorMod_III_7 (by decide) (by omega) (fun c_7 => ?_) (fun c_7 => (by exfalso; omega))
  refine lv_iload_n hx hb d_Ma_floorMod_III_18 rfl (lv_at hl 0 rfl) ?_
  exact y_iret hx hb hr hlocks hQ (rfl) d_Ma_floorMod_III_19
set_option maxHeartbeats 4000000 in
set_option maxRecDepth 100000 in
theorem c_max (l : Launch) (D : va_G) (aC : Nat → ClassId) (x y : Int) (hxx : -2147483648 ≤ x ∧ x < 2147483648) (hyy : -2147483648 ≤ y ∧ y < 2147483648) : CR l D aC y_Ma_max_III (rd 0 0) [.int (iI x), .int (iI y)] [] (fun v => v = some (.int (iI (max x y)))) := by
  refine CR.of (cc := b_Ma_max_III) (maxL := 2) (ret := (some .int)) (by decide +kernel) k_Ma_max_III (Nat.le_of_ble_eq_true rfl) ?_
  intro p e s m below meth c Q S hr hlocks hQ hK hN hP ls hl
  obtain ⟨hx, hb, hml, hown, hts⟩ := id S
  have hl : lv_has ls 2 [(0, .int (iI x)), (1, .int (iI y))] := hl
  refine lv_iload_n hx hb d_Ma_max_III_0 rfl (lv_at hl 0 rfl) ?_
  refine lv_iload_n hx hb d_Ma_max_III_1 rfl (lv_at hl 1 rfl) ?_
  refine x_icmp_lt (tgt := 9) hx hb d_Ma_max_III_2 (by decide) (by omega) (by omega) (fun c_2 => ?_) (fun c_2 => ?_)
  · refine lv_iload_n hx hb d_Ma_max_III_9 rfl (lv_at hl 1 rfl) ?_
    exact y_iret hx hb hr hlocks hQ (by rw [show max x y = y by omega]) d_Ma_max_III_10
  · refine lv_iload_n hx hb d_Ma_max_III_5 rfl (lv_at hl 0 rfl) ?_
    refine lv_goto (tgt := 10) hx hb d_Ma_max_III_6 (by decide) ?_
    exact y_iret hx hb hr hlocks hQ (by rw [show max x y = x by omega]) d_Ma_max_III_10
set_option maxHeartbeats 4000000 in
set_option maxRecDepth 100000 in
theorem c_absI (l : Launch) (D : va_G) (aC : Nat → ClassId) (x : Int) (hxx : -2147483648 < x ∧ x < 2147483648) : CR l D aC y_Ma_abs_II (rd 0 0) [.int (iI x)] [] (fun v => v = some (.int (iI (x.natAbs : Int)))) := by
  refine CR.of (cc := b_Ma_abs_II) (maxL := 1) (ret := (some .int)) (by decide +kernel) k_Ma_abs_II (Nat.le_of_ble_eq_true rfl) ?_
  intro p e s m below meth c Q S hr hlocks hQ hK hN hP ls hl
  obtain ⟨hx, hb, hml, hown, hts⟩ := id S
  have hl : lv_has ls 1 [(0, .int (iI x))] := hl
  refine lv_iload_n hx hb d_Ma_abs_II_0 rfl (lv_at hl 0 rfl) ?_
  refine x_if_ge (tgt := 9) hx hb d_Ma_abs_II_1 (by decide) (by omega) (fun c_1 => ?_) (fun c_1 => ?_)
  · refine lv_iload_n hx hb d_Ma_abs_II_9 rfl (lv_at hl 0 rfl) ?_
    exact y_iret hx hb hr hlocks hQ (by rw [show (x.natAbs : Int) = x by omega]) d_Ma_abs_II_10
  · refine lv_iload_n hx hb d_Ma_abs_II_4 rfl (lv_at hl 0 rfl) ?_
    refine x_ineg hx hb d_Ma_abs_II_5 ?_
    refine lv_goto (tgt := 10) hx hb d_Ma_abs_II_6 (by decide) ?_
    exact y_iret hx hb hr hlocks hQ (by rw [show (x.natAbs : Int) = -x by omega]) d_Ma_abs_II_10
set_option maxHeartbeats 4000000 in
set_option maxRecDepth 100000 in
theorem c_absJ (l : Launch) (D : va_G) (aC : Nat → ClassId) (x : Int) (hxx : -9223372036854775808 < x ∧ x < 9223372036854775808) : CR l D aC y_Ma_abs_JJ (rd 0 0) [.long (lI x)] [] (fun v => v = some (.long (lI (x.natAbs : Int)))) := by
  refine CR.of (cc := b_Ma_abs_JJ) (maxL := 2) (ret := (some .long)) (by decide +kernel) k_Ma_abs_JJ (Nat.le_of_ble_eq_true rfl) ?_
  intro p e s m below meth c Q S hr hlocks hQ hK hN hP ls hl
  obtain ⟨hx, hb, hml, hown, hts⟩ := id S
  have hl : lv_has ls 2 [(0, .long (lI x))] := hl
  refine lv_lload_n hx hb d_Ma_abs_JJ_0 rfl (lv_at hl 0 rfl) ?_
  refine lv_lconst (v := lI 0) hx hb d_Ma_abs_JJ_1 (by decide +kernel) ?_
  refine x_lcmp_ge (tgt := 11) hx hb d_Ma_abs_JJ_2 d_Ma_abs_JJ_3 (by decide) (by omega) (by omega) (fun c_2 => ?_) (fun c_2 => ?_)
  · refine lv_lload_n hx hb d_Ma_abs_JJ_11 rfl (lv_at hl 0 rfl) ?_
    exact y_lret hx hb hr hlocks hQ (by rw [show (x.natAbs : Int) = x by omega]) d_Ma_abs_JJ_12
  · refine lv_lload_n hx hb d_Ma_abs_JJ_6 rfl (lv_at hl 0 rfl) ?_
    refine x_lneg hx hb d_Ma_abs_JJ_7 ?_
    refine lv_goto (tgt := 12) hx hb d_Ma_abs_JJ_8 (by decide) ?_
    exact y_lret hx hb hr hlocks hQ (by rw [show (x.natAbs : Int) = -x by omega]) d_Ma_abs_JJ_12
set_option maxHeartbeats 4000000 in
set_option maxRecDepth 100000 in
theorem c_cmpJ (l : Launch) (D : va_G) (aC : Nat → ClassId) (x y : Int) (hxx : -9223372036854775808 ≤ x ∧ x < 9223372036854775808) (hyy : -9223372036854775808 ≤ y ∧ y < 9223372036854775808) : CR l D aC y_Lo_compare (rd 0 0) [.long (lI x), .long (lI y)] [] (fun v => v = some (.int (iI (lcI x y)))) := by
  refine CR.of (cc := b_Lo_compare) (maxL := 4) (ret := (some .int)) (by decide +kernel) k_Lo_compare (Nat.le_of_ble_eq_true rfl) ?_
  intro p e s m below meth c Q S hr hlocks hQ hK hN hP ls hl
  obtain ⟨hx, hb, hml, hown, hts⟩ := id S
  have hl : lv_has ls 4 [(0, .long (lI x)), (2, .long (lI y))] := hl
  refine lv_lload_n hx hb d_Lo_compare_0 rfl (lv_at hl 0 rfl) ?_
  refine lv_lload_n hx hb d_Lo_compare_1 rfl (lv_at hl 1 rfl) ?_
  refine x_lcmp_ge (tgt := 10) hx hb d_Lo_compare_2 d_Lo_compare_3 (by decide) (by omega) (by omega) (fun c_2 => ?_) (fun c_2 => ?_)
  · refine lv_lload_n hx hb d_Lo_compare_10 rfl (lv_at hl 0 rfl) ?_
    refine lv_lload_n hx hb d_Lo_compare_11 rfl (lv_at hl 1 rfl) ?_
    refine x_lcmp_ne (tgt := 20) hx hb d_Lo_compare_12 d_Lo_compare_13 (by decide) (by omega) (by omega) (fun c_12 => ?_) (fun c_12 => ?_)
    · refine lv_iconst (v := iI 1) hx hb d_Lo_compare_20 rfl ?_
      exact y_iret hx hb hr hlocks hQ (by rw [show lcI x y = 1 by unfold lcI; split <;> (try split) <;> omega]) d_Lo_compare_21
    · refine lv_iconst (v := iI 0) hx hb d_Lo_compare_16 rfl ?_
      refine lv_goto (tgt := 21) hx hb d_Lo_compare_17 (by decide) ?_
      exact y_iret hx hb hr hlocks hQ (by rw [show lcI x y = 0 by unfold lcI; split <;> (try split) <;> omega]) d_Lo_compare_21
  · refine lv_iconst (v := iI (-1)) hx hb d_Lo_compare_6 rfl ?_
    refine lv_goto (tgt := 21) hx hb d_Lo_compare_7 (by decide) ?_
    exact y_iret hx hb hr hlocks hQ (by rw [show lcI x y = -1 by unfold lcI; split <;> (try split) <;> omega]) d_Lo_compare_21
def nlzI (x : Int) : Int := 31 - (x.toNat.log2 : Int)
theorem nlz_eq {x r : Int} (h0 : 0 < x) (hr : 0 ≤ r ∧ r ≤ 31) (h1 : (2 : Int) ^ (31 - r).toNat ≤ x) (h2 : x < 2 ^ (32 - r).toNat) : nlzI x = r := by
  have e1 := p2_nat (31 - r).toNat
  have e2 := p2_nat (32 - r).toNat
  have hn : x.toNat ≠ 0 := by omega
  have a1 : 2 ^ (31 - r).toNat ≤ x.toNat := by omega
  have a2 : x.toNat < 2 ^ ((31 - r).toNat + 1) := by
    rw [show (31 - r).toNat + 1 = (32 - r).toNat by omega]; omega
  have b1 := Nat.le_log2 hn |>.mpr a1
  have b2 := Nat.log2_lt hn |>.mpr a2
  unfold nlzI
  omega
theorem nlz_case {x r n i : Int} (hxx : 0 < x ∧ x < 2147483648) (hr : 0 ≤ r ∧ r ≤ 31) (h : nlzI x = r) : (some (Value.int (iI r)) : Option Value) = some (.int (iI (nlzI x))) := by rw [h]
set_option maxHeartbeats 4000000 in
set_option maxRecDepth 100000 in
theorem c_nlzI (l : Launch) (D : va_G) (aC : Nat → ClassId) (x : Int) (hxx : 0 < x ∧ x < 2147483648) : CR l D aC y_In_numberOfLeadingZeros (rd 0 0) [.int (iI x)] [] (fun v => v = some (.int (iI (nlzI x)))) := by
  refine CR.of (cc := b_In_numberOfLeadingZeros) (maxL := 2) (ret := (some .int)) (by decide +kernel) k_In_numberOfLeadingZeros (Nat.le_of_ble_eq_true rfl) ?_
  intro p e s m below meth c Q S hr hlocks hQ hK hN hP ls hl
  obtain ⟨hx, hb, hml, hown, hts⟩ := id S
  have hl : lv_has ls 2 [(0, .int (iI x))] := hl
  refine lv_iload_n hx hb d_In_numberOfLeadingZeros_0 rfl (lv_at hl 0 rfl) ?_
  refine x_if_gt (tgt := 15) hx hb d_In_numberOfLeadingZeros_1 (by decide) (by omega) (fun c_1 => ?_) (fun c_1 => (by exfalso; omega))
  refine lv_bipush (v := iI 31) hx hb d_In_numberOfLeadingZeros_15 (by decide +kernel) ?_
  refine lv_istore_n (lv' := [(1, .int (iI 31)), (0, .int (iI x))]) hx hb d_In_numberOfLeadingZeros_17 rfl hl (by decide) rfl (fun ls hl => ?_)
  refine lv_iload_n hx hb d_In_numberOfLeadingZeros_18 rfl (lv_at hl 1 rfl) ?_
  refine x_ldcw hx hb 65536 (by decide +kernel) hown (hts _ wk_In_264) d_In_numberOfLeadingZeros_19 ?_
  refine x_icmp_lt (tgt := 33) hx hb d_In_numberOfLeadingZeros_22 (by decide) (by omega) (by omega) (fun c_22 => ?_) (fun c_22 => ?_)
  · refine lv_iload_n hx hb d_In_numberOfLeadingZeros_33 rfl (lv_at hl 1 rfl) ?_
    refine lv_sipush (v := iI 256) hx hb d_In_numberOfLeadingZeros_34 (by decide +kernel) ?_
    refine x_icmp_lt (tgt := 48) hx hb d_In_numberOfLeadingZeros_37 (by decide) (by omega) (by omega) (fun c_37 => ?_) (fun c_37 => ?_)
    · refine lv_iload_n hx hb d_In_numberOfLeadingZeros_48 rfl (lv_at hl 1 rfl) ?_
      refine lv_bipush (v := iI 16) hx hb d_In_numberOfLeadingZeros_49 (by decide +kernel) ?_
      refine x_icmp_lt (tgt := 61) hx hb d_In_numberOfLeadingZeros_51 (by decide) (by omega) (by omega) (fun c_51 => ?_) (fun c_51 => ?_)
      · refine lv_iload_n hx hb d_In_numberOfLeadingZeros_61 rfl (lv_at hl 1 rfl) ?_
        refine lv_iconst (v := iI 4) hx hb d_In_numberOfLeadingZeros_62 rfl ?_
        refine x_icmp_lt (tgt := 73) hx hb d_In_numberOfLeadingZeros_63 (by decide) (by omega) (by omega) (fun c_63 => ?_) (fun c_63 => ?_)
        · refine lv_iload_n hx hb d_In_numberOfLeadingZeros_73 rfl (lv_at hl 0 rfl) ?_
          refine lv_iload_n hx hb d_In_numberOfLeadingZeros_74 rfl (lv_at hl 1 rfl) ?_
          refine lv_iconst (v := iI 1) hx hb d_In_numberOfLeadingZeros_75 rfl ?_
          refine x_iushr hx hb d_In_numberOfLeadingZeros_76 (by omega) (by omega) ?_
          refine x_top _ (x / 2) rfl ?_
          refine x_isub hx hb d_In_numberOfLeadingZeros_77 ?_
          exact y_iret hx hb hr hlocks hQ (by
            rcases (show x / 2 = 0 ∨ x / 2 = 1 by omega) with h | h
            · rw [h, show nlzI x = 31 - 0 from nlz_eq (by omega) (by omega) (show (2 : Int) ^ 0 ≤ x by omega) (show x < (2 : Int) ^ 1 by omega)]
            · rw [h, show nlzI x = 31 - 1 from nlz_eq (by omega) (by omega) (show (2 : Int) ^ 1 ≤ x by omega) (show x < (2 : Int) ^ 2 by omega)]) d_In_numberOfLeadingZeros_78
        · refine lv_iinc (v := iI (31 + (-2))) (lv' := [(1, .int (iI (31 + (-2)))), (0, .int (iI x))]) hx hb d_In_numberOfLeadingZeros_66 hl (k := 0) rfl (iI_add _ _) (by decide) rfl (fun ls hl => ?_)
          refine lv_iload_n hx hb d_In_numberOfLeadingZeros_69 rfl (lv_at hl 1 rfl) ?_
          refine lv_iconst (v := iI 2) hx hb d_In_numberOfLeadingZeros_70 rfl ?_
          refine x_iushr hx hb d_In_numberOfLeadingZeros_71 (by omega) (by omega) ?_
          refine x_top _ (x / 4) rfl ?_
          refine lv_istore_n (lv' := [(0, .int (iI (x / 4))), (1, .int (iI (31 + (-2))))]) hx hb d_In_numberOfLeadingZeros_72 rfl hl (by decide) rfl (fun ls hl => ?_)
          refine lv_iload_n hx hb d_In_numberOfLeadingZeros_73 rfl (lv_at hl 1 rfl) ?_
          refine lv_iload_n hx hb d_In_numberOfLeadingZeros_74 rfl (lv_at hl 0 rfl) ?_
          refine lv_iconst (v := iI 1) hx hb d_In_numberOfLeadingZeros_75 rfl ?_
          refine x_iushr hx hb d_In_numberOfLeadingZeros_76 (by omega) (by omega) ?_
          refine x_top _ ((x / 4) / 2) rfl ?_
          refine x_isub hx hb d_In_numberOfLeadingZeros_77 ?_
          exact y_iret hx hb hr hlocks hQ (by
            rcases (show (x / 4) / 2 = 0 ∨ (x / 4) / 2 = 1 by omega) with h | h
            · rw [h, show nlzI x = (31 + (-2)) - 0 from nlz_eq (by omega) (by omega) (show (2 : Int) ^ 2 ≤ x by omega) (show x < (2 : Int) ^ 3 by omega)]
            · rw [h, show nlzI x = (31 + (-2)) - 1 from nlz_eq (by omega) (by omega) (show (2 : Int) ^ 3 ≤ x by omega) (show x < (2 : Int) ^ 4 by omega)]) d_In_numberOfLeadingZeros_78
      · refine lv_iinc (v := iI (31 + (-4))) (lv' := [(1, .int (iI (31 + (-4)))), (0, .int (iI x))]) hx hb d_In_numberOfLeadingZeros_54 hl (k := 0) rfl (iI_add _ _) (by decide) rfl (fun ls hl => ?_)
        refine lv_iload_n hx hb d_In_numberOfLeadingZeros_57 rfl (lv_at hl 1 rfl) ?_
        refine lv_iconst (v := iI 4) hx hb d_In_numberOfLeadingZeros_58 rfl ?_
        refine x_iushr hx hb d_In_numberOfLeadingZeros_59 (by omega) (by omega) ?_
        refine x_top _ (x / 16) rfl ?_
        refine lv_istore_n (lv' := [(0, .int (iI (x / 16))), (1, .int (iI (31 + (-4))))]) hx hb d_In_numberOfLeadingZeros_60 rfl hl (by decide) rfl (fun ls hl => ?_)
        refine lv_iload_n hx hb d_In_numberOfLeadingZeros_61 rfl (lv_at hl 0 rfl) ?_
        refine lv_iconst (v := iI 4) hx hb d_In_numberOfLeadingZeros_62 rfl ?_
        refine x_icmp_lt (tgt := 73) hx hb d_In_numberOfLeadingZeros_63 (by decide) (by omega) (by omega) (fun c_63 => ?_) (fun c_63 => ?_)
        · refine lv_iload_n hx hb d_In_numberOfLeadingZeros_73 rfl (lv_at hl 1 rfl) ?_
          refine lv_iload_n hx hb d_In_numberOfLeadingZeros_74 rfl (lv_at hl 0 rfl) ?_
          refine lv_iconst (v := iI 1) hx hb d_In_numberOfLeadingZeros_75 rfl ?_
          refine x_iushr hx hb d_In_numberOfLeadingZeros_76 (by omega) (by omega) ?_
          refine x_top _ ((x / 16) / 2) rfl ?_
          refine x_isub hx hb d_In_numberOfLeadingZeros_77 ?_
          exact y_iret hx hb hr hlocks hQ (by
            rcases (show (x / 16) / 2 = 0 ∨ (x / 16) / 2 = 1 by omega) with h | h
            · rw [h, show nlzI x = (31 + (-4)) - 0 from nlz_eq (by omega) (by omega) (show (2 : Int) ^ 4 ≤ x by omega) (show x < (2 : Int) ^ 5 by omega)]
            · rw [h, show nlzI x = (31 + (-4)) - 1 from nlz_eq (by omega) (by omega) (show (2 : Int) ^ 5 ≤ x by omega) (show x < (2 : Int) ^ 6 by omega)]) d_In_numberOfLeadingZeros_78
        · refine lv_iinc (v := iI (31 + (-4) + (-2))) (lv' := [(1, .int (iI (31 + (-4) + (-2)))), (0, .int (iI (x / 16)))]) hx hb d_In_numberOfLeadingZeros_66 hl (k := 1) rfl (iI_add _ _) (by decide) rfl (fun ls hl => ?_)
          refine lv_iload_n hx hb d_In_numberOfLeadingZeros_69 rfl (lv_at hl 1 rfl) ?_
          refine lv_iconst (v := iI 2) hx hb d_In_numberOfLeadingZeros_70 rfl ?_
          refine x_iushr hx hb d_In_numberOfLeadingZeros_71 (by omega) (by omega) ?_
          refine x_top _ ((x / 16) / 4) rfl ?_
          refine lv_istore_n (lv' := [(0, .int (iI ((x / 16) / 4))), (1, .int (iI (31 + (-4) + (-2))))]) hx hb d_In_numberOfLeadingZeros_72 rfl hl (by decide) rfl (fun ls hl => ?_)
          refine lv_iload_n hx hb d_In_numberOfLeadingZeros_73 rfl (lv_at hl 1 rfl) ?_
          refine lv_iload_n hx hb d_In_numberOfLeadingZeros_74 rfl (lv_at hl 0 rfl) ?_
          refine lv_iconst (v := iI 1) hx hb d_In_numberOfLeadingZeros_75 rfl ?_
          refine x_iushr hx hb d_In_numberOfLeadingZeros_76 (by omega) (by omega) ?_
          refine x_top _ (((x / 16) / 4) / 2) rfl ?_
          refine x_isub hx hb d_In_numberOfLeadingZeros_77 ?_
          exact y_iret hx hb hr hlocks hQ (by
            rcases (show ((x / 16) / 4) / 2 = 0 ∨ ((x / 16) / 4) / 2 = 1 by omega) with h | h
            · rw [h, show nlzI x = (31 + (-4) + (-2)) - 0 from nlz_eq (by omega) (by omega) (show (2 : Int) ^ 6 ≤ x by omega) (show x < (2 : Int) ^ 7 by omega)]
            · rw [h, show nlzI x = (31 + (-4) + (-2)) - 1 from nlz_eq (by omega) (by omega) (show (2 : Int) ^ 7 ≤ x by omega) (show x < (2 : Int) ^ 8 by omega)]) d_In_numberOfLeadingZeros_78
    · refine lv_iinc (v := iI (31 + (-8))) (lv' := [(1, .int (iI (31 + (-8)))), (0, .int (iI x))]) hx hb d_In_numberOfLeadingZeros_40 hl (k := 0) rfl (iI_add _ _) (by decide) rfl (fun ls hl => ?_)
      refine lv_iload_n hx hb d_In_numberOfLeadingZeros_43 rfl (lv_at hl 1 rfl) ?_
      refine lv_bipush (v := iI 8) hx hb d_In_numberOfLeadingZeros_44 (by decide +kernel) ?_
      refine x_iushr hx hb d_In_numberOfLeadingZeros_46 (by omega) (by omega) ?_
      refine x_top _ (x / 256) rfl ?_
      refine lv_istore_n (lv' := [(0, .int (iI (x / 256))), (1, .int (iI (31 + (-8))))]) hx hb d_In_numberOfLeadingZeros_47 rfl hl (by decide) rfl (fun ls hl => ?_)
      refine lv_iload_n hx hb d_In_numberOfLeadingZeros_48 rfl (lv_at hl 0 rfl) ?_
      refine lv_bipush (v := iI 16) hx hb d_In_numberOfLeadingZeros_49 (by decide +kernel) ?_
      refine x_icmp_lt (tgt := 61) hx hb d_In_numberOfLeadingZeros_51 (by decide) (by omega) (by omega) (fun c_51 => ?_) (fun c_51 => ?_)
      · refine lv_iload_n hx hb d_In_numberOfLeadingZeros_61 rfl (lv_at hl 0 rfl) ?_
        refine lv_iconst (v := iI 4) hx hb d_In_numberOfLeadingZeros_62 rfl ?_
        refine x_icmp_lt (tgt := 73) hx hb d_In_numberOfLeadingZeros_63 (by decide) (by omega) (by omega) (fun c_63 => ?_) (fun c_63 => ?_)
        · refine lv_iload_n hx hb d_In_numberOfLeadingZeros_73 rfl (lv_at hl 1 rfl) ?_
          refine lv_iload_n hx hb d_In_numberOfLeadingZeros_74 rfl (lv_at hl 0 rfl) ?_
          refine lv_iconst (v := iI 1) hx hb d_In_numberOfLeadingZeros_75 rfl ?_
          refine x_iushr hx hb d_In_numberOfLeadingZeros_76 (by omega) (by omega) ?_
          refine x_top _ ((x / 256) / 2) rfl ?_
          refine x_isub hx hb d_In_numberOfLeadingZeros_77 ?_
          exact y_iret hx hb hr hlocks hQ (by
            rcases (show (x / 256) / 2 = 0 ∨ (x / 256) / 2 = 1 by omega) with h | h
            · rw [h, show nlzI x = (31 + (-8)) - 0 from nlz_eq (by omega) (by omega) (show (2 : Int) ^ 8 ≤ x by omega) (show x < (2 : Int) ^ 9 by omega)]
            · rw [h, show nlzI x = (31 + (-8)) - 1 from nlz_eq (by omega) (by omega) (show (2 : Int) ^ 9 ≤ x by omega) (show x < (2 : Int) ^ 10 by omega)]) d_In_numberOfLeadingZeros_78
        · refine lv_iinc (v := iI (31 + (-8) + (-2))) (lv' := [(1, .int (iI (31 + (-8) + (-2)))), (0, .int (iI (x / 256)))]) hx hb d_In_numberOfLeadingZeros_66 hl (k := 1) rfl (iI_add _ _) (by decide) rfl (fun ls hl => ?_)
          refine lv_iload_n hx hb d_In_numberOfLeadingZeros_69 rfl (lv_at hl 1 rfl) ?_
          refine lv_iconst (v := iI 2) hx hb d_In_numberOfLeadingZeros_70 rfl ?_
          refine x_iushr hx hb d_In_numberOfLeadingZeros_71 (by omega) (by omega) ?_
          refine x_top _ ((x / 256) / 4) rfl ?_
          refine lv_istore_n (lv' := [(0, .int (iI ((x / 256) / 4))), (1, .int (iI (31 + (-8) + (-2))))]) hx hb d_In_numberOfLeadingZeros_72 rfl hl (by decide) rfl (fun ls hl => ?_)
          refine lv_iload_n hx hb d_In_numberOfLeadingZeros_73 rfl (lv_at hl 1 rfl) ?_
          refine lv_iload_n hx hb d_In_numberOfLeadingZeros_74 rfl (lv_at hl 0 rfl) ?_
          refine lv_iconst (v := iI 1) hx hb d_In_numberOfLeadingZeros_75 rfl ?_
          refine x_iushr hx hb d_In_numberOfLeadingZeros_76 (by omega) (by omega) ?_
          refine x_top _ (((x / 256) / 4) / 2) rfl ?_
          refine x_isub hx hb d_In_numberOfLeadingZeros_77 ?_
          exact y_iret hx hb hr hlocks hQ (by
            rcases (show ((x / 256) / 4) / 2 = 0 ∨ ((x / 256) / 4) / 2 = 1 by omega) with h | h
            · rw [h, show nlzI x = (31 + (-8) + (-2)) - 0 from nlz_eq (by omega) (by omega) (show (2 : Int) ^ 10 ≤ x by omega) (show x < (2 : Int) ^ 11 by omega)]
            · rw [h, show nlzI x = (31 + (-8) + (-2)) - 1 from nlz_eq (by omega) (by omega) (show (2 : Int) ^ 11 ≤ x by omega) (show x < (2 : Int) ^ 12 by omega)]) d_In_numberOfLeadingZeros_78
      · refine lv_iinc (v := iI (31 + (-8) + (-4))) (lv' := [(1, .int (iI (31 + (-8) + (-4)))), (0, .int (iI (x / 256)))]) hx hb d_In_numberOfLeadingZeros_54 hl (k := 1) rfl (iI_add _ _) (by decide) rfl (fun ls hl => ?_)
        refine lv_iload_n hx hb d_In_numberOfLeadingZeros_57 rfl (lv_at hl 1 rfl) ?_
        refine lv_iconst (v := iI 4) hx hb d_In_numberOfLeadingZeros_58 rfl ?_
        refine x_iushr hx hb d_In_numberOfLeadingZeros_59 (by omega) (by omega) ?_
        refine x_top _ ((x / 256) / 16) rfl ?_
        refine lv_istore_n (lv' := [(0, .int (iI ((x / 256) / 16))), (1, .int (iI (31 + (-8) + (-4))))]) hx hb d_In_numberOfLeadingZeros_60 rfl hl (by decide) rfl (fun ls hl => ?_)
        refine lv_iload_n hx hb d_In_numberOfLeadingZeros_61 rfl (lv_at hl 0 rfl) ?_
        refine lv_iconst (v := iI 4) hx hb d_In_numberOfLeadingZeros_62 rfl ?_
        refine x_icmp_lt (tgt := 73) hx hb d_In_numberOfLeadingZeros_63 (by decide) (by omega) (by omega) (fun c_63 => ?_) (fun c_63 => ?_)
        · refine lv_iload_n hx hb d_In_numberOfLeadingZeros_73 rfl (lv_at hl 1 rfl) ?_
          refine lv_iload_n hx hb d_In_numberOfLeadingZeros_74 rfl (lv_at hl 0 rfl) ?_
          refine lv_iconst (v := iI 1) hx hb d_In_numberOfLeadingZeros_75 rfl ?_
          refine x_iushr hx hb d_In_numberOfLeadingZeros_76 (by omega) (by omega) ?_
          refine x_top _ (((x / 256) / 16) / 2) rfl ?_
          refine x_isub hx hb d_In_numberOfLeadingZeros_77 ?_
          exact y_iret hx hb hr hlocks hQ (by
            rcases (show ((x / 256) / 16) / 2 = 0 ∨ ((x / 256) / 16) / 2 = 1 by omega) with h | h
            · rw [h, show nlzI x = (31 + (-8) + (-4)) - 0 from nlz_eq (by omega) (by omega) (show (2 : Int) ^ 12 ≤ x by omega) (show x < (2 : Int) ^ 13 by omega)]
            · rw [h, show nlzI x = (31 + (-8) + (-4)) - 1 from nlz_eq (by omega) (by omega) (show (2 : Int) ^ 13 ≤ x by omega) (show x < (2 : Int) ^ 14 by omega)]) d_In_numberOfLeadingZeros_78
        · refine lv_iinc (v := iI (31 + (-8) + (-4) + (-2))) (lv' := [(1, .int (iI (31 + (-8) + (-4) + (-2)))), (0, .int (iI ((x / 256) / 16)))]) hx hb d_In_numberOfLeadingZeros_66 hl (k := 1) rfl (iI_add _ _) (by decide) rfl (fun ls hl => ?_)
          refine lv_iload_n hx hb d_In_numberOfLeadingZeros_69 rfl (lv_at hl 1 rfl) ?_
          refine lv_iconst (v := iI 2) hx hb d_In_numberOfLeadingZeros_70 rfl ?_
          refine x_iushr hx hb d_In_numberOfLeadingZeros_71 (by omega) (by omega) ?_
          refine x_top _ (((x / 256) / 16) / 4) rfl ?_
          refine lv_istore_n (lv' := [(0, .int (iI (((x / 256) / 16) / 4))), (1, .int (iI (31 + (-8) + (-4) + (-2))))]) hx hb d_In_numberOfLeadingZeros_72 rfl hl (by decide) rfl (fun ls hl => ?_)
          refine lv_iload_n hx hb d_In_numberOfLeadingZeros_73 rfl (lv_at hl 1 rfl) ?_
          refine lv_iload_n hx hb d_In_numberOfLeadingZeros_74 rfl (lv_at hl 0 rfl) ?_
          refine lv_iconst (v := iI 1) hx hb d_In_numberOfLeadingZeros_75 rfl ?_
          refine x_iushr hx hb d_In_numberOfLeadingZeros_76 (by omega) (by omega) ?_
          refine x_top _ ((((x / 256) / 16) / 4) / 2) rfl ?_
          refine x_isub hx hb d_In_numberOfLeadingZeros_77 ?_
          exact y_iret hx hb hr hlocks hQ (by
            rcases (show (((x / 256) / 16) / 4) / 2 = 0 ∨ (((x / 256) / 16) / 4) / 2 = 1 by omega) with h | h
            · rw [h, show nlzI x = (31 + (-8) + (-4) + (-2)) - 0 from nlz_eq (by omega) (by omega) (show (2 : Int) ^ 14 ≤ x by omega) (show x < (2 : Int) ^ 15 by omega)]
            · rw [h, show nlzI x = (31 + (-8) + (-4) + (-2)) - 1 from nlz_eq (by omega) (by omega) (show (2 : Int) ^ 15 ≤ x by omega) (show x < (2 : Int) ^ 16 by omega)]) d_In_numberOfLeadingZeros_78
  · refine lv_iinc (v := iI (31 + (-16))) (lv' := [(1, .int (iI (31 + (-16)))), (0, .int (iI x))]) hx hb d_In_numberOfLeadingZeros_25 hl (k := 0) rfl (iI_add _ _) (by decide) rfl (fun ls hl => ?_)
    refine lv_iload_n hx hb d_In_numberOfLeadingZeros_28 rfl (lv_at hl 1 rfl) ?_
    refine lv_bipush (v := iI 16) hx hb d_In_numberOfLeadingZeros_29 (by decide +kernel) ?_
    refine x_iushr hx hb d_In_numberOfLeadingZeros_31 (by omega) (by omega) ?_
    refine x_top _ (x / 65536) rfl ?_
    refine lv_istore_n (lv' := [(0, .int (iI (x / 65536))), (1, .int (iI (31 + (-16))))]) hx hb d_In_numberOfLeadingZeros_32 rfl hl (by decide) rfl (fun ls hl => ?_)
    refine lv_iload_n hx hb d_In_numberOfLeadingZeros_33 rfl (lv_at hl 0 rfl) ?_
    refine lv_sipush (v := iI 256) hx hb d_In_numberOfLeadingZeros_34 (by decide +kernel) ?_
    refine x_icmp_lt (tgt := 48) hx hb d_In_numberOfLeadingZeros_37 (by decide) (by omega) (by omega) (fun c_37 => ?_) (fun c_37 => ?_)
    · refine lv_iload_n hx hb d_In_numberOfLeadingZeros_48 rfl (lv_at hl 0 rfl) ?_
      refine lv_bipush (v := iI 16) hx hb d_In_numberOfLeadingZeros_49 (by decide +kernel) ?_
      refine x_icmp_lt (tgt := 61) hx hb d_In_numberOfLeadingZeros_51 (by decide) (by omega) (by omega) (fun c_51 => ?_) (fun c_51 => ?_)
      · refine lv_iload_n hx hb d_In_numberOfLeadingZeros_61 rfl (lv_at hl 0 rfl) ?_
        refine lv_iconst (v := iI 4) hx hb d_In_numberOfLeadingZeros_62 rfl ?_
        refine x_icmp_lt (tgt := 73) hx hb d_In_numberOfLeadingZeros_63 (by decide) (by omega) (by omega) (fun c_63 => ?_) (fun c_63 => ?_)
        · refine lv_iload_n hx hb d_In_numberOfLeadingZeros_73 rfl (lv_at hl 1 rfl) ?_
          refine lv_iload_n hx hb d_In_numberOfLeadingZeros_74 rfl (lv_at hl 0 rfl) ?_
          refine lv_iconst (v := iI 1) hx hb d_In_numberOfLeadingZeros_75 rfl ?_
          refine x_iushr hx hb d_In_numberOfLeadingZeros_76 (by omega) (by omega) ?_
          refine x_top _ ((x / 65536) / 2) rfl ?_
          refine x_isub hx hb d_In_numberOfLeadingZeros_77 ?_
          exact y_iret hx hb hr hlocks hQ (by
            rcases (show (x / 65536) / 2 = 0 ∨ (x / 65536) / 2 = 1 by omega) with h | h
            · rw [h, show nlzI x = (31 + (-16)) - 0 from nlz_eq (by omega) (by omega) (show (2 : Int) ^ 16 ≤ x by omega) (show x < (2 : Int) ^ 17 by omega)]
            · rw [h, show nlzI x = (31 + (-16)) - 1 from nlz_eq (by omega) (by omega) (show (2 : Int) ^ 17 ≤ x by omega) (show x < (2 : Int) ^ 18 by omega)]) d_In_numberOfLeadingZeros_78
        · refine lv_iinc (v := iI (31 + (-16) + (-2))) (lv' := [(1, .int (iI (31 + (-16) + (-2)))), (0, .int (iI (x / 65536)))]) hx hb d_In_numberOfLeadingZeros_66 hl (k := 1) rfl (iI_add _ _) (by decide) rfl (fun ls hl => ?_)
          refine lv_iload_n hx hb d_In_numberOfLeadingZeros_69 rfl (lv_at hl 1 rfl) ?_
          refine lv_iconst (v := iI 2) hx hb d_In_numberOfLeadingZeros_70 rfl ?_
          refine x_iushr hx hb d_In_numberOfLeadingZeros_71 (by omega) (by omega) ?_
          refine x_top _ ((x / 65536) / 4) rfl ?_
          refine lv_istore_n (lv' := [(0, .int (iI ((x / 65536) / 4))), (1, .int (iI (31 + (-16) + (-2))))]) hx hb d_In_numberOfLeadingZeros_72 rfl hl (by decide) rfl (fun ls hl => ?_)
          refine lv_iload_n hx hb d_In_numberOfLeadingZeros_73 rfl (lv_at hl 1 rfl) ?_
          refine lv_iload_n hx hb d_In_numberOfLeadingZeros_74 rfl (lv_at hl 0 rfl) ?_
          refine lv_iconst (v := iI 1) hx hb d_In_numberOfLeadingZeros_75 rfl ?_
          refine x_iushr hx hb d_In_numberOfLeadingZeros_76 (by omega) (by omega) ?_
          refine x_top _ (((x / 65536) / 4) / 2) rfl ?_
          refine x_isub hx hb d_In_numberOfLeadingZeros_77 ?_
          exact y_iret hx hb hr hlocks hQ (by
            rcases (show ((x / 65536) / 4) / 2 = 0 ∨ ((x / 65536) / 4) / 2 = 1 by omega) with h | h
            · rw [h, show nlzI x = (31 + (-16) + (-2)) - 0 from nlz_eq (by omega) (by omega) (show (2 : Int) ^ 18 ≤ x by omega) (show x < (2 : Int) ^ 19 by omega)]
            · rw [h, show nlzI x = (31 + (-16) + (-2)) - 1 from nlz_eq (by omega) (by omega) (show (2 : Int) ^ 19 ≤ x by omega) (show x < (2 : Int) ^ 20 by omega)]) d_In_numberOfLeadingZeros_78
      · refine lv_iinc (v := iI (31 + (-16) + (-4))) (lv' := [(1, .int (iI (31 + (-16) + (-4)))), (0, .int (iI (x / 65536)))]) hx hb d_In_numberOfLeadingZeros_54 hl (k := 1) rfl (iI_add _ _) (by decide) rfl (fun ls hl => ?_)
        refine lv_iload_n hx hb d_In_numberOfLeadingZeros_57 rfl (lv_at hl 1 rfl) ?_
        refine lv_iconst (v := iI 4) hx hb d_In_numberOfLeadingZeros_58 rfl ?_
        refine x_iushr hx hb d_In_numberOfLeadingZeros_59 (by omega) (by omega) ?_
        refine x_top _ ((x / 65536) / 16) rfl ?_
        refine lv_istore_n (lv' := [(0, .int (iI ((x / 65536) / 16))), (1, .int (iI (31 + (-16) + (-4))))]) hx hb d_In_numberOfLeadingZeros_60 rfl hl (by decide) rfl (fun ls hl => ?_)
        refine lv_iload_n hx hb d_In_numberOfLeadingZeros_61 rfl (lv_at hl 0 rfl) ?_
        refine lv_iconst (v := iI 4) hx hb d_In_numberOfLeadingZeros_62 rfl ?_
        refine x_icmp_lt (tgt := 73) hx hb d_In_numberOfLeadingZeros_63 (by decide) (by omega) (by omega) (fun c_63 => ?_) (fun c_63 => ?_)
        · refine lv_iload_n hx hb d_In_numberOfLeadingZeros_73 rfl (lv_at hl 1 rfl) ?_
          refine lv_iload_n hx hb d_In_numberOfLeadingZeros_74 rfl (lv_at hl 0 rfl) ?_
          refine lv_iconst (v := iI 1) hx hb d_In_numberOfLeadingZeros_75 rfl ?_
          refine x_iushr hx hb d_In_numberOfLeadingZeros_76 (by omega) (by omega) ?_
          refine x_top _ (((x / 65536) / 16) / 2) rfl ?_
          refine x_isub hx hb d_In_numberOfLeadingZeros_77 ?_
          exact y_iret hx hb hr hlocks hQ (by
            rcases (show ((x / 65536) / 16) / 2 = 0 ∨ ((x / 65536) / 16) / 2 = 1 by omega) with h | h
            · rw [h, show nlzI x = (31 + (-16) + (-4)) - 0 from nlz_eq (by omega) (by omega) (show (2 : Int) ^ 20 ≤ x by omega) (show x < (2 : Int) ^ 21 by omega)]
            · rw [h, show nlzI x = (31 + (-16) + (-4)) - 1 from nlz_eq (by omega) (by omega) (show (2 : Int) ^ 21 ≤ x by omega) (show x < (2 : Int) ^ 22 by omega)]) d_In_numberOfLeadingZeros_78
        · refine lv_iinc (v := iI (31 + (-16) + (-4) + (-2))) (lv' := [(1, .int (iI (31 + (-16) + (-4) + (-2)))), (0, .int (iI ((x / 65536) / 16)))]) hx hb d_In_numberOfLeadingZeros_66 hl (k := 1) rfl (iI_add _ _) (by decide) rfl (fun ls hl => ?_)
          refine lv_iload_n hx hb d_In_numberOfLeadingZeros_69 rfl (lv_at hl 1 rfl) ?_
          refine lv_iconst (v := iI 2) hx hb d_In_numberOfLeadingZeros_70 rfl ?_
          refine x_iushr hx hb d_In_numberOfLeadingZeros_71 (by omega) (by omega) ?_
          refine x_top _ (((x / 65536) / 16) / 4) rfl ?_
          refine lv_istore_n (lv' := [(0, .int (iI (((x / 65536) / 16) / 4))), (1, .int (iI (31 + (-16) + (-4) + (-2))))]) hx hb d_In_numberOfLeadingZeros_72 rfl hl (by decide) rfl (fun ls hl => ?_)
          refine lv_iload_n hx hb d_In_numberOfLeadingZeros_73 rfl (lv_at hl 1 rfl) ?_
          refine lv_iload_n hx hb d_In_numberOfLeadingZeros_74 rfl (lv_at hl 0 rfl) ?_
          refine lv_iconst (v := iI 1) hx hb d_In_numberOfLeadingZeros_75 rfl ?_
          refine x_iushr hx hb d_In_numberOfLeadingZeros_76 (by omega) (by omega) ?_
          refine x_top _ ((((x / 65536) / 16) / 4) / 2) rfl ?_
          refine x_isub hx hb d_In_numberOfLeadingZeros_77 ?_
          exact y_iret hx hb hr hlocks hQ (by
            rcases (show (((x / 65536) / 16) / 4) / 2 = 0 ∨ (((x / 65536) / 16) / 4) / 2 = 1 by omega) with h | h
            · rw [h, show nlzI x = (31 + (-16) + (-4) + (-2)) - 0 from nlz_eq (by omega) (by omega) (show (2 : Int) ^ 22 ≤ x by omega) (show x < (2 : Int) ^ 23 by omega)]
            · rw [h, show nlzI x = (31 + (-16) + (-4) + (-2)) - 1 from nlz_eq (by omega) (by omega) (show (2 : Int) ^ 23 ≤ x by omega) (show x < (2 : Int) ^ 24 by omega)]) d_In_numberOfLeadingZeros_78
    · refine lv_iinc (v := iI (31 + (-16) + (-8))) (lv' := [(1, .int (iI (31 + (-16) + (-8)))), (0, .int (iI (x / 65536)))]) hx hb d_In_numberOfLeadingZeros_40 hl (k := 1) rfl (iI_add _ _) (by decide) rfl (fun ls hl => ?_)
      refine lv_iload_n hx hb d_In_numberOfLeadingZeros_43 rfl (lv_at hl 1 rfl) ?_
      refine lv_bipush (v := iI 8) hx hb d_In_numberOfLeadingZeros_44 (by decide +kernel) ?_
      refine x_iushr hx hb d_In_numberOfLeadingZeros_46 (by omega) (by omega) ?_
      refine x_top _ ((x / 65536) / 256) rfl ?_
      refine lv_istore_n (lv' := [(0, .int (iI ((x / 65536) / 256))), (1, .int (iI (31 + (-16) + (-8))))]) hx hb d_In_numberOfLeadingZeros_47 rfl hl (by decide) rfl (fun ls hl => ?_)
      refine lv_iload_n hx hb d_In_numberOfLeadingZeros_48 rfl (lv_at hl 0 rfl) ?_
      refine lv_bipush (v := iI 16) hx hb d_In_numberOfLeadingZeros_49 (by decide +kernel) ?_
      refine x_icmp_lt (tgt := 61) hx hb d_In_numberOfLeadingZeros_51 (by decide) (by omega) (by omega) (fun c_51 => ?_) (fun c_51 => ?_)
      · refine lv_iload_n hx hb d_In_numberOfLeadingZeros_61 rfl (lv_at hl 0 rfl) ?_
        refine lv_iconst (v := iI 4) hx hb d_In_numberOfLeadingZeros_62 rfl ?_
        refine x_icmp_lt (tgt := 73) hx hb d_In_numberOfLeadingZeros_63 (by decide) (by omega) (by omega) (fun c_63 => ?_) (fun c_63 => ?_)
        · refine lv_iload_n hx hb d_In_numberOfLeadingZeros_73 rfl (lv_at hl 1 rfl) ?_
          refine lv_iload_n hx hb d_In_numberOfLeadingZeros_74 rfl (lv_at hl 0 rfl) ?_
          refine lv_iconst (v := iI 1) hx hb d_In_numberOfLeadingZeros_75 rfl ?_
          refine x_iushr hx hb d_In_numberOfLeadingZeros_76 (by omega) (by omega) ?_
          refine x_top _ (((x / 65536) / 256) / 2) rfl ?_
          refine x_isub hx hb d_In_numberOfLeadingZeros_77 ?_
          exact y_iret hx hb hr hlocks hQ (by
            rcases (show ((x / 65536) / 256) / 2 = 0 ∨ ((x / 65536) / 256) / 2 = 1 by omega) with h | h
            · rw [h, show nlzI x = (31 + (-16) + (-8)) - 0 from nlz_eq (by omega) (by omega) (show (2 : Int) ^ 24 ≤ x by omega) (show x < (2 : Int) ^ 25 by omega)]
            · rw [h, show nlzI x = (31 + (-16) + (-8)) - 1 from nlz_eq (by omega) (by omega) (show (2 : Int) ^ 25 ≤ x by omega) (show x < (2 : Int) ^ 26 by omega)]) d_In_numberOfLeadingZeros_78
        · refine lv_iinc (v := iI (31 + (-16) + (-8) + (-2))) (lv' := [(1, .int (iI (31 + (-16) + (-8) + (-2)))), (0, .int (iI ((x / 65536) / 256)))]) hx hb d_In_numberOfLeadingZeros_66 hl (k := 1) rfl (iI_add _ _) (by decide) rfl (fun ls hl => ?_)
          refine lv_iload_n hx hb d_In_numberOfLeadingZeros_69 rfl (lv_at hl 1 rfl) ?_
          refine lv_iconst (v := iI 2) hx hb d_In_numberOfLeadingZeros_70 rfl ?_
          refine x_iushr hx hb d_In_numberOfLeadingZeros_71 (by omega) (by omega) ?_
          refine x_top _ (((x / 65536) / 256) / 4) rfl ?_
          refine lv_istore_n (lv' := [(0, .int (iI (((x / 65536) / 256) / 4))), (1, .int (iI (31 + (-16) + (-8) + (-2))))]) hx hb d_In_numberOfLeadingZeros_72 rfl hl (by decide) rfl (fun ls hl => ?_)
          refine lv_iload_n hx hb d_In_numberOfLeadingZeros_73 rfl (lv_at hl 1 rfl) ?_
          refine lv_iload_n hx hb d_In_numberOfLeadingZeros_74 rfl (lv_at hl 0 rfl) ?_
          refine lv_iconst (v := iI 1) hx hb d_In_numberOfLeadingZeros_75 rfl ?_
          refine x_iushr hx hb d_In_numberOfLeadingZeros_76 (by omega) (by omega) ?_
          refine x_top _ ((((x / 65536) / 256) / 4) / 2) rfl ?_
          refine x_isub hx hb d_In_numberOfLeadingZeros_77 ?_
          exact y_iret hx hb hr hlocks hQ (by
            rcases (show (((x / 65536) / 256) / 4) / 2 = 0 ∨ (((x / 65536) / 256) / 4) / 2 = 1 by omega) with h | h
            · rw [h, show nlzI x = (31 + (-16) + (-8) + (-2)) - 0 from nlz_eq (by omega) (by omega) (show (2 : Int) ^ 26 ≤ x by omega) (show x < (2 : Int) ^ 27 by omega)]
            · rw [h, show nlzI x = (31 + (-16) + (-8) + (-2)) - 1 from nlz_eq (by omega) (by omega) (show (2 : Int) ^ 27 ≤ x by omega) (show x < (2 : Int) ^ 28 by omega)]) d_In_numberOfLeadingZeros_78
      · refine lv_iinc (v := iI (31 + (-16) + (-8) + (-4))) (lv' := [(1, .int (iI (31 + (-16) + (-8) + (-4)))), (0, .int (iI ((x / 65536) / 256)))]) hx hb d_In_numberOfLeadingZeros_54 hl (k := 1) rfl (iI_add _ _) (by decide) rfl (fun ls hl => ?_)
        refine lv_iload_n hx hb d_In_numberOfLeadingZeros_57 rfl (lv_at hl 1 rfl) ?_
        refine lv_iconst (v := iI 4) hx hb d_In_numberOfLeadingZeros_58 rfl ?_
        refine x_iushr hx hb d_In_numberOfLeadingZeros_59 (by omega) (by omega) ?_
        refine x_top _ (((x / 65536) / 256) / 16) rfl ?_
        refine lv_istore_n (lv' := [(0, .int (iI (((x / 65536) / 256) / 16))), (1, .int (iI (31 + (-16) + (-8) + (-4))))]) hx hb d_In_numberOfLeadingZeros_60 rfl hl (by decide) rfl (fun ls hl => ?_)
        refine lv_iload_n hx hb d_In_numberOfLeadingZeros_61 rfl (lv_at hl 0 rfl) ?_
        refine lv_iconst (v := iI 4) hx hb d_In_numberOfLeadingZeros_62 rfl ?_
        refine x_icmp_lt (tgt := 73) hx hb d_In_numberOfLeadingZeros_63 (by decide) (by omega) (by omega) (fun c_63 => ?_) (fun c_63 => ?_)
        · refine lv_iload_n hx hb d_In_numberOfLeadingZeros_73 rfl (lv_at hl 1 rfl) ?_
          refine lv_iload_n hx hb d_In_numberOfLeadingZeros_74 rfl (lv_at hl 0 rfl) ?_
          refine lv_iconst (v := iI 1) hx hb d_In_numberOfLeadingZeros_75 rfl ?_
          refine x_iushr hx hb d_In_numberOfLeadingZeros_76 (by omega) (by omega) ?_
          refine x_top _ ((((x / 65536) / 256) / 16) / 2) rfl ?_
          refine x_isub hx hb d_In_numberOfLeadingZeros_77 ?_
          exact y_iret hx hb hr hlocks hQ (by
            rcases (show (((x / 65536) / 256) / 16) / 2 = 0 ∨ (((x / 65536) / 256) / 16) / 2 = 1 by omega) with h | h
            · rw [h, show nlzI x = (31 + (-16) + (-8) + (-4)) - 0 from nlz_eq (by omega) (by omega) (show (2 : Int) ^ 28 ≤ x by omega) (show x < (2 : Int) ^ 29 by omega)]
            · rw [h, show nlzI x = (31 + (-16) + (-8) + (-4)) - 1 from nlz_eq (by omega) (by omega) (show (2 : Int) ^ 29 ≤ x by omega) (show x < (2 : Int) ^ 30 by omega)]) d_In_numberOfLeadingZeros_78
        · refine lv_iinc (v := iI (31 + (-16) + (-8) + (-4) + (-2))) (lv' := [(1, .int (iI (31 + (-16) + (-8) + (-4) + (-2)))), (0, .int (iI (((x / 65536) / 256) / 16)))]) hx hb d_In_numberOfLeadingZeros_66 hl (k := 1) rfl (iI_add _ _) (by decide) rfl (fun ls hl => ?_)
          refine lv_iload_n hx hb d_In_numberOfLeadingZeros_69 rfl (lv_at hl 1 rfl) ?_
          refine lv_iconst (v := iI 2) hx hb d_In_numberOfLeadingZeros_70 rfl ?_
          refine x_iushr hx hb d_In_numberOfLeadingZeros_71 (by omega) (by omega) ?_
          refine x_top _ ((((x / 65536) / 256) / 16) / 4) rfl ?_
          refine lv_istore_n (lv' := [(0, .int (iI ((((x / 65536) / 256) / 16) / 4))), (1, .int (iI (31 + (-16) + (-8) + (-4) + (-2))))]) hx hb d_In_numberOfLeadingZeros_72 rfl hl (by decide) rfl (fun ls hl => ?_)
          refine lv_iload_n hx hb d_In_numberOfLeadingZeros_73 rfl (lv_at hl 1 rfl) ?_
          refine lv_iload_n hx hb d_In_numberOfLeadingZeros_74 rfl (lv_at hl 0 rfl) ?_
          refine lv_iconst (v := iI 1) hx hb d_In_numberOfLeadingZeros_75 rfl ?_
          refine x_iushr hx hb d_In_numberOfLeadingZeros_76 (by omega) (by omega) ?_
          refine x_top _ (((((x / 65536) / 256) / 16) / 4) / 2) rfl ?_
          refine x_isub hx hb d_In_numberOfLeadingZeros_77 ?_
          exact y_iret hx hb hr hlocks hQ (by
            rcases (show ((((x / 65536) / 256) / 16) / 4) / 2 = 0 ∨ ((((x / 65536) / 256) / 16) / 4) / 2 = 1 by omega) with h | h
            · rw [h, show nlzI x = (31 + (-16) + (-8) + (-4) + (-2)) - 0 from nlz_eq (by omega) (by omega) (show (2 : Int) ^ 30 ≤ x by omega) (show x < (2 : Int) ^ 31 by omega)]
            · rw [h, show nlzI x = (31 + (-16) + (-8) + (-4) + (-2)) - 1 from nlz_eq (by omega) (by omega) (show (2 : Int) ^ 31 ≤ x by omega) (show x < (2 : Int) ^ 32 by omega)]) d_In_numberOfLeadingZeros_78
set_option maxHeartbeats 4000000 in
set_option maxRecDepth 100000 in
theorem c_nlzJ (l : Launch) (D : va_G) (aC : Nat → ClassId) (x : Int) (hxx : 0 < x ∧ x < 2147483648) : CR l D aC y_Lo_numberOfLeadingZeros (rd 1 21) [.long (lI x)] [] (fun v => v = some (.int (iI (32 + nlzI x)))) := by
  refine CR.of (cc := b_Lo_numberOfLeadingZeros) (maxL := 3) (ret := (some .int)) (by decide +kernel) k_Lo_numberOfLeadingZeros (Nat.le_of_ble_eq_true rfl) ?_
  intro p e s m below meth c Q S hr hlocks hQ hK hN hP ls hl
  obtain ⟨hx, hb, hml, hown, hts⟩ := id S
  have hl : lv_has ls 3 [(0, .long (lI x))] := hl
  refine lv_lload_n hx hb d_Lo_numberOfLeadingZeros_0 rfl (lv_at hl 0 rfl) ?_
  refine lv_bipush (v := iI 32) hx hb d_Lo_numberOfLeadingZeros_1 (by decide +kernel) ?_
  refine x_lushr hx hb d_Lo_numberOfLeadingZeros_3 (by omega) (by omega) ?_
  refine x_topl _ (x / 4294967296) rfl ?_
  refine x_l2i hx hb d_Lo_numberOfLeadingZeros_4 ?_
  refine lv_istore_n (lv' := [(2, .int (iI (x / 4294967296))), (0, .long (lI x))]) hx hb d_Lo_numberOfLeadingZeros_5 rfl hl (by decide) rfl (fun ls hl => ?_)
  refine lv_iload_n hx hb d_Lo_numberOfLeadingZeros_6 rfl (lv_at hl 0 rfl) ?_
  refine x_if_ne (tgt := 21) hx hb d_Lo_numberOfLeadingZeros_7 (by decide) (by omega) (fun c_7 => (by exfalso; omega)) (fun c_7 => ?_)
  refine lv_bipush (v := iI 32) hx hb d_Lo_numberOfLeadingZeros_10 (by decide +kernel) ?_
  refine lv_lload_n hx hb d_Lo_numberOfLeadingZeros_12 rfl (lv_at hl 1 rfl) ?_
  refine x_l2i hx hb d_Lo_numberOfLeadingZeros_13 ?_
  refine y_callS1 (V := .int (iI (nlzI x))) S (c_nlzI l D aC x (by omega)) t_Lo_308 (rm_ok (by decide) (by decide)) hK hN hP [] rfl rfl hl.1 rfl (Nat.le_of_ble_eq_true rfl) d_Lo_numberOfLeadingZeros_14 ⟨Nat.zero_le _, Nat.zero_le _⟩ ?_
  refine x_iadd hx hb d_Lo_numberOfLeadingZeros_17 ?_
  refine lv_goto (tgt := 25) hx hb d_Lo_numberOfLeadingZeros_18 (by decide) ?_
  exact y_iret hx hb hr hlocks hQ (rfl) d_Lo_numberOfLeadingZeros_25
set_option maxHeartbeats 4000000 in
set_option maxRecDepth 100000 in
theorem c_fill (l : Launch) (D : va_G) (aC : Nat → ClassId) (a n : Nat) (f : Int → Int) (z : Int) (hn : n < 2147483648) : CT l D aC y_Ar_fill_JJV (rd 0 0) [.ref a, .long (lI z)] [(a, eJ aC n f)] (fun v w => v = none ∧ ∃ g : Int → Int, w = [(a, eJ aC n g)] ∧ ∀ j : Int, 0 ≤ j → j < (n : Int) → g j = z) := by
  refine CT.of (cc := b_Ar_fill_JJV) (maxL := 5) (ret := none) (by decide +kernel) k_Ar_fill_JJV (Nat.le_of_ble_eq_true rfl) ?_
  intro p e s m below meth c Q S hr hlocks hQ hK hN hP hD hS ls hl
  obtain ⟨hx, hb, hml, hown, hts⟩ := id S
  have hl : lv_has ls 5 [(0, .ref a), (1, .long (lI z))] := hl
  refine lv_iconst (v := iI 0) hx hb d_Ar_fill_JJV_0 rfl ?_
  refine lv_istore_n (lv' := [(3, .int (iI 0)), (0, .ref a), (1, .long (lI z))]) hx hb d_Ar_fill_JJV_1 rfl hl (by decide) rfl (fun ls hl => ?_)
  refine lv_aload_n hx hb d_Ar_fill_JJV_2 rfl (lv_at hl 1 rfl) ?_
  refine x_alen hx hb hK hP 0 1 rfl rfl (n := n) rfl d_Ar_fill_JJV_3 ?_
  refine lv_istore (lv' := [(4, .int (iI (n : Int))), (3, .int (iI 0)), (0, .ref a), (1, .long (lI z))]) hx hb d_Ar_fill_JJV_4 hl (by decide) rfl (fun ls hl => ?_)
  have L6 : ∀ (nn : Nat) (t : Int) (g : Int → Int) (H : Heap) (locs : List Loc) (ls : Array Slot), (0 ≤ t ∧ t ≤ (n : Int)) → (∀ j : Int, 0 ≤ j → j < t → g j = z) → (n : Int) - t < (nn : Int) → va_P D CL [(a, eJ aC n g)] H → va_D (aW [(a, eJ aC n f)]) [(a, eJ aC n g)] → va_S (aW [(a, eJ aC n f)]) s.heap H locs → lv_has ls 5 [(0, .ref a), (1, .long (lI z)), (3, .int (iI t)), (4, .int (iI (n : Int)))] → W p l e (rd 0 0) s m ([.ref a, .long (lI z)]).toArray below meth c H locs 0 0 Q (F0 m 6 ls []) := by
    intro nn
    induction nn with
    | zero => intro t g H locs ls ht hg hnn; exact absurd hnn (by omega)
    | succ nn ih =>
      intro t g H locs ls ht hg hnn hP hD hS hl
      refine lv_iload_n hx hb d_Ar_fill_JJV_6 rfl (lv_at hl 2 rfl) ?_
      refine lv_iload hx hb d_Ar_fill_JJV_7 (lv_at hl 3 rfl) ?_
      refine x_icmp_ge (tgt := 22) hx hb d_Ar_fill_JJV_9 (by decide) (by omega) (by omega) (fun c_9 => ?_) (fun c_9 => ?_)
      · exact x_vret hx hb hr hlocks hQ (⟨rfl, g, rfl, fun j h1 h2 => hg j h1 (by omega)⟩) rfl hP hS d_Ar_fill_JJV_22
      · refine lv_aload_n hx hb d_Ar_fill_JJV_12 rfl (lv_at hl 0 rfl) ?_
        refine lv_iload_n hx hb d_Ar_fill_JJV_13 rfl (lv_at hl 2 rfl) ?_
        refine lv_lload_n hx hb d_Ar_fill_JJV_14 rfl (lv_at hl 1 rfl) ?_
        refine x_last hx hb hK hP hD hS 0 rfl (by omega) (hn) d_Ar_fill_JJV_15 (fun H locs hP hD hS => ?_)
        have hP : va_P D CL [(a, eJ aC n (updI g t z))] H := hP
        have hD : va_D (aW [(a, eJ aC n f)]) [(a, eJ aC n (updI g t z))] := hD
        refine lv_iinc (v := iI (t + 1)) (lv' := [(3, .int (iI (t + 1))), (0, .ref a), (1, .long (lI z)), (4, .int (iI (n : Int)))]) hx hb d_Ar_fill_JJV_16 hl (k := 2) rfl (iI_add _ _) (by decide) rfl (fun ls hl => ?_)
        refine lv_goto (tgt := 6) hx hb d_Ar_fill_JJV_19 (by decide) ?_
        exact ih (t + 1) (updI g t z) _ _ ls (by omega) (fun j h1 h2 => by
          by_cases hj : j = t
          · rw [hj, updI_s]
          · rw [updI_n hj]; exact hg j h1 (by omega)) (by omega) hP hD hS (lv_sub hl [1, 2, 0, 3] rfl)
  exact L6 _ 0 f _ _ ls (by omega) (fun j h1 h2 => by omega) (n_lt _) hP hD hS (lv_sub hl [2, 3, 1, 0] rfl)
