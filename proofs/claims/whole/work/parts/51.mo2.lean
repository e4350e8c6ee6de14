/-- how many limbs of 16 bits a number has -/
def ll (P : Int) : Int := if P = 0 then 0 else tp P / 16 + 1
theorem p16 : (2 : Int) ^ 16 = 65536 := rfl
theorem trm_ll {g : Int → Int} {N : Nat} (h : nrm 16 g N) : (trm g N : Int) = ll (dg 16 g N) := by
  have e := trm_dg (b := 16) (f := g) N
  have hle := trm_le (f := g) N
  have htop := trm_top (f := g) N
  generalize trm g N = t at *
  rw [← e]
  rcases (show t = 0 ∨ 0 < t by omega) with rfl | q
  · rfl
  · obtain ⟨c, rfl⟩ : ∃ c : Nat, t = c + 1 := ⟨t - 1, by omega⟩
    have h0 := htop q
    rw [show ((c + 1 : Nat) : Int) - 1 = (c : Int) by omega] at h0
    have hc := h (c : Int) (by omega) (by omega)
    rw [p16] at hc
    obtain ⟨r1, r2⟩ := dg_range c (h.le (show c ≤ N by omega))
    have hw := p2_pos (16 * c)
    have e1 : dg 16 g (c + 1) = dg 16 g c + g (c : Int) * 2 ^ (16 * c) := rfl
    have b1 : 1 * 2 ^ (16 * c) ≤ g (c : Int) * 2 ^ (16 * c) := Int.mul_le_mul_of_nonneg_right (by omega) (Int.le_of_lt hw)
    have b2 : (g (c : Int) + 1) * 2 ^ (16 * c) ≤ 65536 * 2 ^ (16 * c) := Int.mul_le_mul_of_nonneg_right (by omega) (Int.le_of_lt hw)
    rw [Int.add_mul, Int.one_mul] at b2
    rw [Int.one_mul] at b1
    have hP : 0 < dg 16 g (c + 1) := by omega
    obtain ⟨k, hk, k1, k2⟩ := tp_spec hP
    have h1 : 16 * c ≤ k := by
      rcases Nat.lt_or_ge k (16 * c) with z | z
      · have := p2_le (show k + 1 ≤ 16 * c by omega); omega
      · exact z
    have h2 : k < 16 * c + 16 := by
      rcases Nat.lt_or_ge k (16 * c + 16) with z | z
      · exact z
      · have z2 := p2_le z
        rw [p2_add, p16] at z2
        omega
    unfold ll
    rw [if_neg (by omega), hk]
    omega
theorem mt_step {g fb : Int → Int} {N : Nat} {i j cy S X ai : Int} (hi : 0 ≤ i) (hj : 0 ≤ j) (hN : i + j < (N : Int)) (h : dg 16 g N + cy * 2 ^ (16 * (i + j).toNat) = X + ai * dg 16 fb j.toNat * 2 ^ (16 * i.toNat)) (hS : cy + (ai * fb j + g (i + j)) = S) :
    dg 16 (updI g (i + j) (S % 65536)) N + S / 65536 * 2 ^ (16 * (i + (j + 1)).toNat) = X + ai * dg 16 fb (j + 1).toNat * 2 ^ (16 * i.toNat) := by
  rw [dg_upd (by omega) N hN, show (j + 1).toNat = j.toNat + 1 by omega]
  show _ = X + ai * (dg 16 fb j.toNat + fb (j.toNat : Int) * 2 ^ (16 * j.toNat)) * 2 ^ (16 * i.toNat)
  rw [show ((j.toNat : Nat) : Int) = j by omega, show 16 * (i + (j + 1)).toNat = 16 * (i + j).toNat + 16 by omega, p2_add, p16, Int.mul_add, Int.add_mul, ← Int.add_assoc, ← h]
  have e1 : ai * (fb j * 2 ^ (16 * j.toNat)) * 2 ^ (16 * i.toNat) = ai * fb j * 2 ^ (16 * (i + j).toNat) := by
    rw [show 16 * (i + j).toNat = 16 * j.toNat + 16 * i.toNat by omega, p2_add, ← Int.mul_assoc, ← Int.mul_assoc]
  rw [e1]
  generalize (2 : Int) ^ (16 * (i + j).toNat) = w
  generalize ai * fb j = ab at *
  have e2 : S % 65536 * w + S / 65536 * (w * 65536) = S * w := by
    have := emod_add_div S 65536
    rw [← Int.mul_assoc, Int.mul_comm (S / 65536) w, Int.mul_comm (S % 65536) w, Int.mul_assoc, ← Int.mul_add, Int.mul_comm (S / 65536) 65536, this, Int.mul_comm]
  rw [← hS] at e2 ⊢
  rw [Int.sub_mul]
  have e3 : (cy + (ab + g (i + j))) * w = cy * w + (ab * w + g (i + j) * w) := by rw [Int.add_mul, Int.add_mul]
  omega
theorem mt_end {g fa fb : Int → Int} {N : Nat} {i m cy : Int} (hi : 0 ≤ i) (hm : 0 ≤ m) (hN : i + m < (N : Int)) (hz : g (i + m) = 0) (h : dg 16 g N + cy * 2 ^ (16 * (i + m).toNat) = dg 16 fa i.toNat * dg 16 fb m.toNat + fa i * dg 16 fb m.toNat * 2 ^ (16 * i.toNat)) :
    dg 16 (updI g (i + m) cy) N = dg 16 fa (i + 1).toNat * dg 16 fb m.toNat := by
  rw [dg_upd (by omega) N hN, hz, show (i + 1).toNat = i.toNat + 1 by omega]
  show _ = (dg 16 fa i.toNat + fa (i.toNat : Int) * 2 ^ (16 * i.toNat)) * dg 16 fb m.toNat
  rw [show ((i.toNat : Nat) : Int) = i by omega, Int.add_mul, Int.sub_zero, h, Int.mul_right_comm (fa i)]

set_option maxHeartbeats 4000000 in
set_option maxRecDepth 100000 in
theorem c_Mo_times (l : Launch) (D : va_G) (aC : Nat → ClassId) (r a b : Nat) (fr fa fb : Int → Int) (na nb : Int) (hn : 0 ≤ na ∧ na ≤ 100) (hm : 0 ≤ nb ∧ nb ≤ 100) (hfa : ∀ j : Int, 0 ≤ j → j < na → 0 ≤ fa j ∧ fa j < 65536) (hfb : ∀ j : Int, 0 ≤ j → j < nb → 0 ≤ fb j ∧ fb j < 65536) : CT l D aC y_Mo_times (rd 1 22) [.ref a, .int (iI na), .ref b, .int (iI nb), .ref r] [(r, eI aC 1200 fr), (a, eI aC 1200 fa), (b, eI aC 1200 fb)] (fun v w => v = some (.int (iI (ll (dg 16 fa na.toNat * dg 16 fb nb.toNat)))) ∧ ∃ g : Int → Int, w = [(r, eI aC 1200 g), (a, eI aC 1200 fa), (b, eI aC 1200 fb)] ∧ nrm 16 g (na + nb).toNat ∧ dg 16 g (na + nb).toNat = dg 16 fa na.toNat * dg 16 fb nb.toNat) := by
  refine CT.of (cc := b_Mo_times) (maxL := 9) (ret := (some .int)) (by decide +kernel) k_Mo_times (Nat.le_of_ble_eq_true rfl) ?_
  intro p e s m below meth c Q S hr hlocks hQ hK hN hP hD hS ls hl
  obtain ⟨hx, hb, hml, hown, hts⟩ := id S
  have hl : lv_has ls 9 [(0, .ref a), (1, .int (iI na)), (2, .ref b), (3, .int (iI nb)), (4, .ref r)] := hl
  refine lv_iconst (v := iI 0) hx hb d_Mo_times_0 rfl ?_
  refine lv_istore (lv' := [(5, .int (iI 0)), (0, .ref a), (1, .int (iI na)), (2, .ref b), (3, .int (iI nb)), (4, .ref r)]) hx hb d_Mo_times_1 hl (by decide) rfl (fun ls hl => ?_)
  have L3 : ∀ (nn : Nat) (t : Int) (g : Int → Int) (H : Heap) (locs : List Loc) (ls : Array Slot), (0 ≤ t ∧ t ≤ na + nb) → (∀ j : Int, 0 ≤ j → j < t → g j = 0) → na + nb - t < (nn : Int) → va_P D CL [(r, eI aC 1200 g), (a, eI aC 1200 fa), (b, eI aC 1200 fb)] H → va_D (aW [(r, eI aC 1200 fr), (a, eI aC 1200 fa), (b, eI aC 1200 fb)]) [(r, eI aC 1200 g), (a, eI aC 1200 fa), (b, eI aC 1200 fb)] → va_S (aW [(r, eI aC 1200 fr), (a, eI aC 1200 fa), (b, eI aC 1200 fb)]) s.heap H locs → lv_has ls 9 [(5, .int (iI t)), (0, .ref a), (1, .int (iI na)), (2, .ref b), (3, .int (iI nb)), (4, .ref r)] → W p l e (rd 1 22) s m ([.ref a, .int (iI na), .ref b, .int (iI nb), .ref r]).toArray below meth c H locs 0 0 Q (F0 m 3 ls []) := by
    intro nn
    induction nn with
    | zero => intro t g H locs ls ht hg hnn; exact absurd hnn (by omega)
    | succ nn ih =>
      intro t g H locs ls ht hg hnn hP hD hS hl
      refine lv_iload hx hb d_Mo_times_3 (lv_at hl 0 rfl) ?_
      refine lv_iload_n hx hb d_Mo_times_5 rfl (lv_at hl 2 rfl) ?_
      refine lv_iload_n hx hb d_Mo_times_6 rfl (lv_at hl 4 rfl) ?_
      refine x_iadd hx hb d_Mo_times_7 ?_
      refine x_icmp_ge (tgt := 23) hx hb d_Mo_times_8 (by decide) (by omega) (by omega) (fun c_8 => ?_) (fun c_8 => ?_)
      · refine lv_iconst (v := iI 0) hx hb d_Mo_times_23 rfl ?_
        refine lv_istore (lv' := [(5, .int (iI 0)), (0, .ref a), (1, .int (iI na)), (2, .ref b), (3, .int (iI nb)), (4, .ref r)]) hx hb d_Mo_times_24 hl (by decide) rfl (fun ls hl => ?_)
        have L26 : ∀ (nn : Nat) (i : Int) (g1 : Int → Int) (H : Heap) (locs : List Loc) (ls : Array Slot), (0 ≤ i ∧ i ≤ na) → (∀ j : Int, 0 ≤ j → j < na + nb → 0 ≤ g1 j ∧ g1 j < 65536) → (∀ j : Int, i + nb ≤ j → j < na + nb → g1 j = 0) → (dg 16 g1 (na + nb).toNat = dg 16 fa i.toNat * dg 16 fb nb.toNat) → na - i < (nn : Int) → va_P D CL [(r, eI aC 1200 g1), (a, eI aC 1200 fa), (b, eI aC 1200 fb)] H → va_D (aW [(r, eI aC 1200 fr), (a, eI aC 1200 fa), (b, eI aC 1200 fb)]) [(r, eI aC 1200 g1), (a, eI aC 1200 fa), (b, eI aC 1200 fb)] → va_S (aW [(r, eI aC 1200 fr), (a, eI aC 1200 fa), (b, eI aC 1200 fb)]) s.heap H locs → lv_has ls 9 [(5, .int (iI i)), (0, .ref a), (1, .int (iI na)), (2, .ref b), (3, .int (iI nb)), (4, .ref r)] → W p l e (rd 1 22) s m ([.ref a, .int (iI na), .ref b, .int (iI nb), .ref r]).toArray below meth c H locs 0 0 Q (F0 m 26 ls []) := by
          intro nn26
          induction nn26 with
          | zero => intro i g1 H locs ls hi hr1 hz1 hd1 hnn26; exact absurd hnn26 (by omega)
          | succ nn26 ih26 =>
            intro i g1 H locs ls hi hr1 hz1 hd1 hnn26 hP hD hS hl
            refine lv_iload hx hb d_Mo_times_26 (lv_at hl 0 rfl) ?_
            refine lv_iload_n hx hb d_Mo_times_28 rfl (lv_at hl 2 rfl) ?_
            refine x_icmp_ge (tgt := 114) hx hb d_Mo_times_29 (by decide) (by omega) (by omega) (fun c_29 => ?_) (fun c_29 => ?_)
            · refine lv_aload hx hb d_Mo_times_114 (lv_at hl 5 rfl) ?_
              refine lv_iload_n hx hb d_Mo_times_116 rfl (lv_at hl 2 rfl) ?_
              refine lv_iload_n hx hb d_Mo_times_117 rfl (lv_at hl 4 rfl) ?_
              refine x_iadd hx hb d_Mo_times_118 ?_
              refine y_callS1 (V := .int (iI (trm g1 (na + nb).toNat : Int))) S (c_Mo_trim l D aC r 1200 g1 (na + nb) (by decide) (by omega) (fun z h1 h2 => hr1 z h1 (by omega))) t_Mo_84 (rm_ok (by decide) (by decide)) hK hN hP [0] rfl rfl hl.1 rfl (Nat.le_of_ble_eq_true rfl) d_Mo_times_119 ⟨Nat.zero_le _, Nat.zero_le _⟩ ?_
              have hnr : nrm 16 g1 (na + nb).toNat := fun z h1 h2 => by rw [p16]; exact hr1 z h1 (by omega)
              refine x_top (trm g1 (na + nb).toNat : Int) (ll (dg 16 fa na.toNat * dg 16 fb nb.toNat)) (by rw [trm_ll hnr, hd1, show i = na by omega]) ?_
              exact x_iret hx hb hr hlocks hQ (⟨rfl, g1, rfl, hnr, by rw [hd1, show i = na by omega]⟩) rfl hP hS d_Mo_times_122
            · refine lv_lconst (v := lI 0) hx hb d_Mo_times_32 (by decide +kernel) ?_
              refine lv_lstore (lv' := [(6, .long (lI 0)), (5, .int (iI i)), (0, .ref a), (1, .int (iI na)), (2, .ref b), (3, .int (iI nb)), (4, .ref r)]) hx hb d_Mo_times_33 hl (by decide) rfl (fun ls hl => ?_)
              refine lv_iconst (v := iI 0) hx hb d_Mo_times_35 rfl ?_
              refine lv_istore (lv' := [(8, .int (iI 0)), (6, .long (lI 0)), (5, .int (iI i)), (0, .ref a), (1, .int (iI na)), (2, .ref b), (3, .int (iI nb)), (4, .ref r)]) hx hb d_Mo_times_36 hl (by decide) rfl (fun ls hl => ?_)
              have L38 : ∀ (nn : Nat) (j : Int) (cy : Int) (g2 : Int → Int) (H : Heap) (locs : List Loc) (ls : Array Slot), (0 ≤ j ∧ j ≤ nb) → (0 ≤ cy ∧ cy < 65536) → (∀ j : Int, 0 ≤ j → j < na + nb → 0 ≤ g2 j ∧ g2 j < 65536) → (∀ j : Int, i + nb ≤ j → j < na + nb → g2 j = 0) → (dg 16 g2 (na + nb).toNat + cy * 2 ^ (16 * (i + j).toNat) = dg 16 fa i.toNat * dg 16 fb nb.toNat + fa i * dg 16 fb j.toNat * 2 ^ (16 * i.toNat)) → nb - j < (nn : Int) → va_P D CL [(r, eI aC 1200 g2), (a, eI aC 1200 fa), (b, eI aC 1200 fb)] H → va_D (aW [(r, eI aC 1200 fr), (a, eI aC 1200 fa), (b, eI aC 1200 fb)]) [(r, eI aC 1200 g2), (a, eI aC 1200 fa), (b, eI aC 1200 fb)] → va_S (aW [(r, eI aC 1200 fr), (a, eI aC 1200 fa), (b, eI aC 1200 fb)]) s.heap H locs → lv_has ls 9 [(8, .int (iI j)), (6, .long (lI cy)), (5, .int (iI i)), (0, .ref a), (1, .int (iI na)), (2, .ref b), (3, .int (iI nb)), (4, .ref r)] → W p l e (rd 1 22) s m ([.ref a, .int (iI na), .ref b, .int (iI nb), .ref r]).toArray below meth c H locs 0 0 Q (F0 m 38 ls []) := by
                intro nn38
                induction nn38 with
                | zero => intro j cy g2 H locs ls hj hc hr2 hz2 hd2 hnn38; exact absurd hnn38 (by omega)
                | succ nn38 ih38 =>
                  intro j cy g2 H locs ls hj hc hr2 hz2 hd2 hnn38 hP hD hS hl
                  refine lv_iload hx hb d_Mo_times_38 (lv_at hl 0 rfl) ?_
                  refine lv_iload_n hx hb d_Mo_times_40 rfl (lv_at hl 6 rfl) ?_
                  refine x_icmp_ge (tgt := 98) hx hb d_Mo_times_41 (by decide) (by omega) (by omega) (fun c_41 => ?_) (fun c_41 => ?_)
                  · refine lv_aload hx hb d_Mo_times_98 (lv_at hl 7 rfl) ?_
                    refine lv_iload hx hb d_Mo_times_100 (lv_at hl 2 rfl) ?_
                    refine lv_iload_n hx hb d_Mo_times_102 rfl (lv_at hl 6 rfl) ?_
                    refine x_iadd hx hb d_Mo_times_103 ?_
                    refine lv_lload hx hb d_Mo_times_104 (lv_at hl 1 rfl) ?_
                    refine x_l2i hx hb d_Mo_times_106 ?_
                    refine x_iast hx hb hK hP hD hS 0 rfl (by omega) (by decide) d_Mo_times_107 (fun H locs hP hD hS => ?_)
                    have hP : va_P D CL [(r, eI aC 1200 (updI g2 (i + nb) cy)), (a, eI aC 1200 fa), (b, eI aC 1200 fb)] H := hP
                    have hD : va_D (aW [(r, eI aC 1200 fr), (a, eI aC 1200 fa), (b, eI aC 1200 fb)]) [(r, eI aC 1200 (updI g2 (i + nb) cy)), (a, eI aC 1200 fa), (b, eI aC 1200 fb)] := hD
                    refine lv_iinc (v := iI (i + 1)) (lv' := [(5, .int (iI (i + 1))), (8, .int (iI j)), (6, .long (lI cy)), (0, .ref a), (1, .int (iI na)), (2, .ref b), (3, .int (iI nb)), (4, .ref r)]) hx hb d_Mo_times_108 hl (k := 2) rfl (iI_add _ _) (by decide) rfl (fun ls hl => ?_)
                    refine lv_goto (tgt := 26) hx hb d_Mo_times_111 (by decide) ?_
                    exact ih26 (i + 1) (updI g2 (i + nb) cy) _ _ ls (by omega) (fun j h1 h2 => by
                      by_cases hj : j = i + nb
                      · rw [hj, updI_s]; omega
                      · rw [updI_n hj]; exact hr2 j h1 h2) (fun j h1 h2 => by rw [updI_n (by omega)]; exact hz2 j (by omega) h2) (mt_end (by omega) (by omega) (by omega) (hz2 (i + nb) (by omega) (by omega)) (by rw [show j = nb from (by omega)] at hd2; exact hd2)) (by omega) hP hD hS (lv_sub hl [0, 3, 4, 5, 6, 7] rfl)
                  · refine lv_lload hx hb d_Mo_times_44 (lv_at hl 1 rfl) ?_
                    refine lv_aload_n hx hb d_Mo_times_46 rfl (lv_at hl 3 rfl) ?_
                    refine lv_iload hx hb d_Mo_times_47 (lv_at hl 2 rfl) ?_
                    refine x_iald hx hb hK hP 1 rfl (by omega) (by decide) d_Mo_times_49 ?_
                    have ha1 := hfa i (by omega) (by omega)
                    refine x_i2l hx hb d_Mo_times_50 (by omega) ?_
                    refine lv_aload_n hx hb d_Mo_times_51 rfl (lv_at hl 5 rfl) ?_
                    refine lv_iload hx hb d_Mo_times_52 (lv_at hl 0 rfl) ?_
                    refine x_iald hx hb hK hP 2 rfl (by omega) (by decide) d_Mo_times_54 ?_
                    have hb1 := hfb j (by omega) (by omega)
                    refine x_i2l hx hb d_Mo_times_55 (by omega) ?_
                    have ha1 := hfa i (by omega) (by omega)
                    have hb1 := hfb j (by omega) (by omega)
                    have hab : 0 ≤ fa i * fb j ∧ fa i * fb j ≤ 65535 * 65535 := mul_rng (by omega) (by omega) (by omega) (by omega)
                    refine x_lmul hx hb d_Mo_times_56 ?_
                    refine lv_aload hx hb d_Mo_times_57 (lv_at hl 7 rfl) ?_
                    refine lv_iload hx hb d_Mo_times_59 (lv_at hl 2 rfl) ?_
                    refine lv_iload hx hb d_Mo_times_61 (lv_at hl 0 rfl) ?_
                    refine x_iadd hx hb d_Mo_times_63 ?_
                    refine x_iald hx hb hK hP 0 rfl (by omega) (by decide) d_Mo_times_64 ?_
                    have hgij := hr2 (i + j) (by omega) (by omega)
                    refine x_i2l hx hb d_Mo_times_65 (by omega) ?_
                    refine x_ladd hx hb d_Mo_times_66 ?_
                    refine x_ladd hx hb d_Mo_times_67 ?_
                    obtain ⟨S2, hSd⟩ : ∃ z : Int, cy + (((fa i) * (fb j)) + (g2 (i + j))) = z := ⟨_, rfl⟩
                    refine x_topl _ S2 hSd ?_
                    have hS2 : 0 ≤ S2 ∧ S2 ≤ 4294967295 := by omega
                    refine lv_lstore (lv' := [(6, .long (lI S2)), (8, .int (iI j)), (5, .int (iI i)), (0, .ref a), (1, .int (iI na)), (2, .ref b), (3, .int (iI nb)), (4, .ref r)]) hx hb d_Mo_times_68 hl (by decide) rfl (fun ls hl => ?_)
                    refine lv_aload hx hb d_Mo_times_70 (lv_at hl 7 rfl) ?_
                    refine lv_iload hx hb d_Mo_times_72 (lv_at hl 2 rfl) ?_
                    refine lv_iload hx hb d_Mo_times_74 (lv_at hl 1 rfl) ?_
                    refine x_iadd hx hb d_Mo_times_76 ?_
                    refine lv_lload hx hb d_Mo_times_77 (lv_at hl 0 rfl) ?_
                    refine x_ldc2 hx hb 65535 (by decide +kernel) hown (hts _ wk_Mo_82) d_Mo_times_79 ?_
                    refine x_land (v := (S2 % 65536)) hx hb d_Mo_times_82 (lI_m16 _) ?_
                    refine x_l2i hx hb d_Mo_times_83 ?_
                    refine x_iast hx hb hK hP hD hS 0 rfl (by omega) (by decide) d_Mo_times_84 (fun H locs hP hD hS => ?_)
                    have hP : va_P D CL [(r, eI aC 1200 (updI g2 (i + j) (S2 % 65536))), (a, eI aC 1200 fa), (b, eI aC 1200 fb)] H := hP
                    have hD : va_D (aW [(r, eI aC 1200 fr), (a, eI aC 1200 fa), (b, eI aC 1200 fb)]) [(r, eI aC 1200 (updI g2 (i + j) (S2 % 65536))), (a, eI aC 1200 fa), (b, eI aC 1200 fb)] := hD
                    refine lv_lload hx hb d_Mo_times_85 (lv_at hl 0 rfl) ?_
                    refine lv_bipush (v := iI 16) hx hb d_Mo_times_87 (by decide +kernel) ?_
                    refine x_lushr hx hb d_Mo_times_89 (by omega) (by omega) ?_
                    refine x_topl _ (S2 / 65536) rfl ?_
                    refine lv_lstore (lv' := [(6, .long (lI (S2 / 65536))), (8, .int (iI j)), (5, .int (iI i)), (0, .ref a), (1, .int (iI na)), (2, .ref b), (3, .int (iI nb)), (4, .ref r)]) hx hb d_Mo_times_90 hl (by decide) rfl (fun ls hl => ?_)
                    refine lv_iinc (v := iI (j + 1)) (lv' := [(8, .int (iI (j + 1))), (6, .long (lI (S2 / 65536))), (5, .int (iI i)), (0, .ref a), (1, .int (iI na)), (2, .ref b), (3, .int (iI nb)), (4, .ref r)]) hx hb d_Mo_times_92 hl (k := 1) rfl (iI_add _ _) (by decide) rfl (fun ls hl => ?_)
                    refine lv_goto (tgt := 38) hx hb d_Mo_times_95 (by decide) ?_
                    exact ih38 (j + 1) (S2 / 65536) (updI g2 (i + j) (S2 % 65536)) _ _ ls (by omega) (by omega) (fun z h1 h2 => by
                      by_cases hz : z = i + j
                      · rw [hz, updI_s]; omega
                      · rw [updI_n hz]; exact hr2 z h1 h2) (fun z h1 h2 => by rw [updI_n (by omega)]; exact hz2 z h1 h2) (mt_step (by omega) (by omega) (by omega) hd2 hSd) (by omega) hP hD hS (lv_sub hl [0, 1, 2, 3, 4, 5, 6, 7] rfl)
              exact L38 _ 0 0 g1 _ _ ls (by omega) (by omega) (hr1) (hz1) (by rw [hd1]; show _ + 0 * _ = _ + fa i * 0 * _; rw [Int.zero_mul, Int.mul_zero, Int.zero_mul]) (n_lt _) hP hD hS (lv_sub hl [0, 1, 2, 3, 4, 5, 6, 7] rfl)
        exact L26 _ 0 g _ _ ls (by omega) (fun j h1 h2 => by rw [hg j h1 (by omega)]; omega) (fun j h1 h2 => hg j (by omega) (by omega)) (by rw [dg_zero (b := 16) (f := g) (na + nb).toNat (fun j h1 h2 => hg j h1 (by omega))]; exact (Int.zero_mul _).symm) (n_lt _) hP hD hS (lv_sub hl [0, 1, 2, 3, 4, 5] rfl)
      · refine lv_aload hx hb d_Mo_times_11 (lv_at hl 5 rfl) ?_
        refine lv_iload hx hb d_Mo_times_13 (lv_at hl 0 rfl) ?_
        refine lv_iconst (v := iI 0) hx hb d_Mo_times_15 rfl ?_
        refine x_iast hx hb hK hP hD hS 0 rfl (by omega) (by decide) d_Mo_times_16 (fun H locs hP hD hS => ?_)
        have hP : va_P D CL [(r, eI aC 1200 (updI g t 0)), (a, eI aC 1200 fa), (b, eI aC 1200 fb)] H := hP
        have hD : va_D (aW [(r, eI aC 1200 fr), (a, eI aC 1200 fa), (b, eI aC 1200 fb)]) [(r, eI aC 1200 (updI g t 0)), (a, eI aC 1200 fa), (b, eI aC 1200 fb)] := hD
        refine lv_iinc (v := iI (t + 1)) (lv' := [(5, .int (iI (t + 1))), (0, .ref a), (1, .int (iI na)), (2, .ref b), (3, .int (iI nb)), (4, .ref r)]) hx hb d_Mo_times_17 hl (k := 0) rfl (iI_add _ _) (by decide) rfl (fun ls hl => ?_)
        refine lv_goto (tgt := 3) hx hb d_Mo_times_20 (by decide) ?_
        exact ih (t + 1) (updI g t 0) _ _ ls (by omega) (fun j h1 h2 => by
          by_cases hj : j = t
          · rw [hj, updI_s]
          · rw [updI_n hj]; exact hg j h1 (by omega)) (by omega) hP hD hS (lv_sub hl [0, 1, 2, 3, 4, 5] rfl)
  exact L3 _ 0 fr _ _ ls (by omega) (fun j h1 h2 => by omega) (n_lt _) hP hD hS (lv_sub hl [0, 1, 2, 3, 4, 5] rfl)
def shl (fa : Int → Int) (na sh j : Int) : Int := ((if j < na then fa j * 2 ^ sh.toNat else 0) + (if 0 < j then fa (j - 1) / 2 ^ (16 - sh).toNat else 0)) % 65536
theorem sh_uh {sh : Int} (h : 0 ≤ sh ∧ sh < 16) : (2 : Int) ^ sh.toNat * 2 ^ (16 - sh).toNat = 65536 := by rw [← p2_add, show sh.toNat + (16 - sh).toNat = 16 by omega]; rfl
theorem sh_lo {sh x : Int} (h : 0 ≤ sh ∧ sh < 16) (hx : 0 ≤ x ∧ x < 65536) : 0 ≤ x / 2 ^ (16 - sh).toNat ∧ x / 2 ^ (16 - sh).toNat < 2 ^ sh.toNat := by
  have hp := p2_pos (16 - sh).toNat
  refine ⟨Int.ediv_nonneg hx.1 (Int.le_of_lt hp), Int.ediv_lt_of_lt_mul hp (by rw [sh_uh h]; exact hx.2)⟩
theorem sh_hi {sh x y : Int} (h : 0 ≤ sh ∧ sh < 16) (hx : 0 ≤ x ∧ x < 65536) (hy : 0 ≤ y ∧ y < 65536) : x * 2 ^ sh.toNat + y / 2 ^ (16 - sh).toNat < 2147483648 := by
  have h1 := sh_lo h hy
  have h2 := p2_le (show sh.toNat ≤ 15 by omega)
  have h3 : (2 : Int) ^ 15 = 32768 := rfl
  have h4 : (x + 1) * 2 ^ sh.toNat ≤ 65536 * 2 ^ sh.toNat := Int.mul_le_mul_of_nonneg_right (by omega) (Int.le_of_lt (p2_pos _))
  rw [Int.add_mul, Int.one_mul] at h4
  omega
theorem sh_mod {sh x y : Int} (h : 0 ≤ sh ∧ sh < 16) (hx : 0 ≤ x ∧ x < 65536) (hy : 0 ≤ y ∧ y < 2 ^ sh.toNat) : (x * 2 ^ sh.toNat + y) % 65536 = x % 2 ^ (16 - sh).toNat * 2 ^ sh.toNat + y := by
  have hu := p2_pos sh.toNat
  have hh := p2_pos (16 - sh).toNat
  have e := sh_uh h
  have d := emod_add_div x (2 ^ (16 - sh).toNat)
  have r1 := Int.emod_nonneg x (Int.ne_of_gt hh)
  have r2 := Int.emod_lt_of_pos x hh
  generalize x % 2 ^ (16 - sh).toNat = r at *
  generalize x / 2 ^ (16 - sh).toNat = c at *
  generalize (2 : Int) ^ sh.toNat = u at *
  generalize (2 : Int) ^ (16 - sh).toNat = v at *
  have e2 : x * u + y = (r * u + y) + 65536 * c := by
    rw [← d, Int.add_mul, ← e, Int.mul_comm v c, Int.mul_assoc, Int.mul_comm u v, Int.mul_comm c (v * u)]; omega
  have b1 : (r + 1) * u ≤ v * u := Int.mul_le_mul_of_nonneg_right (by omega) (Int.le_of_lt hu)
  rw [Int.add_mul, Int.one_mul, Int.mul_comm v u, e] at b1
  have b2 := Int.mul_nonneg r1 (Int.le_of_lt hu)
  rw [e2, Int.add_mul_emod_self_left]
  exact Int.emod_eq_of_lt (by omega) (by omega)
theorem shl_sum {fa g : Int → Int} {na sh : Int} (hsh : 0 ≤ sh ∧ sh < 16) (hfa : ∀ j : Int, 0 ≤ j → j < na → 0 ≤ fa j ∧ fa j < 65536) (hg : ∀ j : Int, 0 ≤ j → j < na + 1 → g j = shl fa na sh j) : ∀ m : Nat, (m : Int) < na → dg 16 g (m + 1) + fa (m : Int) / 2 ^ (16 - sh).toNat * 2 ^ (16 * (m + 1)) = dg 16 fa (m + 1) * 2 ^ sh.toNat
  | 0, h => by
    have ha := hfa 0 (by omega) (by omega)
    have e0 : g 0 = fa 0 % 2 ^ (16 - sh).toNat * 2 ^ sh.toNat := by
      rw [hg 0 (by omega) (by omega)]; unfold shl
      rw [if_pos (by omega), if_neg (by omega), sh_mod hsh ha ⟨Int.le_refl 0, p2_pos _⟩, Int.add_zero]
    show 0 + g 0 * 2 ^ (16 * 0) + fa 0 / 2 ^ (16 - sh).toNat * 2 ^ (16 * (0 + 1)) = (0 + fa 0 * 2 ^ (16 * 0)) * 2 ^ sh.toNat
    have e1 : (2 : Int) ^ (16 * 0) = 1 := rfl
    have e2 : (2 : Int) ^ (16 * (0 + 1)) = 65536 := rfl
    rw [e0, e1, e2, ← sh_uh hsh]
    have d := emod_add_div (fa 0) (2 ^ (16 - sh).toNat)
    generalize fa 0 % 2 ^ (16 - sh).toNat = r at *
    generalize fa 0 / 2 ^ (16 - sh).toNat = c at *
    generalize (2 : Int) ^ sh.toNat = u at *
    generalize (2 : Int) ^ (16 - sh).toNat = v at *
    rw [← d, Int.zero_add, Int.zero_add, Int.mul_one, Int.mul_one, Int.add_mul, Int.mul_comm v c, Int.mul_assoc c v u, Int.mul_comm v u]
  | m + 1, h => by
    have ih := shl_sum hsh hfa hg m (by omega)
    have ha := hfa ((m + 1 : Nat) : Int) (by omega) h
    have hb := hfa (m : Int) (by omega) (by omega)
    have e0 : g ((m + 1 : Nat) : Int) = fa ((m + 1 : Nat) : Int) % 2 ^ (16 - sh).toNat * 2 ^ sh.toNat + fa (m : Int) / 2 ^ (16 - sh).toNat := by
      rw [hg _ (by omega) (by omega)]; unfold shl
      rw [if_pos h, if_pos (by omega), show ((m + 1 : Nat) : Int) - 1 = (m : Int) by omega, sh_mod hsh ha (sh_lo hsh hb)]
    show dg 16 g (m + 1) + g ((m + 1 : Nat) : Int) * 2 ^ (16 * (m + 1)) + fa ((m + 1 : Nat) : Int) / 2 ^ (16 - sh).toNat * 2 ^ (16 * (m + 1 + 1)) = (dg 16 fa (m + 1) + fa ((m + 1 : Nat) : Int) * 2 ^ (16 * (m + 1))) * 2 ^ sh.toNat
    rw [e0, Int.add_mul (dg 16 fa (m + 1)), ← ih, show 16 * (m + 1 + 1) = 16 * (m + 1) + 16 by omega, p2_add, p16, ← sh_uh hsh]
    have d := emod_add_div (fa ((m + 1 : Nat) : Int)) (2 ^ (16 - sh).toNat)
    generalize fa ((m + 1 : Nat) : Int) % 2 ^ (16 - sh).toNat = r at *
    generalize fa ((m + 1 : Nat) : Int) / 2 ^ (16 - sh).toNat = c at *
    generalize fa (m : Int) / 2 ^ (16 - sh).toNat = b at *
    generalize (2 : Int) ^ sh.toNat = u at *
    generalize (2 : Int) ^ (16 - sh).toNat = v at *
    generalize (2 : Int) ^ (16 * (m + 1)) = w at *
    rw [← d]
    have k1 : c * (w * (u * v)) = v * c * w * u := by
      rw [← Int.mul_assoc, ← Int.mul_assoc, Int.mul_comm v c, Int.mul_right_comm c v w, Int.mul_right_comm (c * w) v u]
    have k2 : (r * u + b) * w = r * w * u + b * w := by rw [Int.add_mul, Int.mul_right_comm]
    have k3 : (r + v * c) * w * u = r * w * u + v * c * w * u := by rw [Int.add_mul, Int.add_mul]
    rw [k1, k2, k3]; omega
theorem shl_all {fa g : Int → Int} {na sh : Int} (hn : 1 ≤ na ∧ na ≤ 100) (hsh : 0 ≤ sh ∧ sh < 16) (hfa : ∀ j : Int, 0 ≤ j → j < na → 0 ≤ fa j ∧ fa j < 65536) (hg : ∀ j : Int, 0 ≤ j → j < na + 1 → g j = shl fa na sh j) : nrm 16 g (na + 1).toNat ∧ dg 16 g (na + 1).toNat = dg 16 fa na.toNat * 2 ^ sh.toNat := by
  refine ⟨fun j h1 h2 => ?_, ?_⟩
  · rw [hg j h1 (by omega), p16]; unfold shl; omega
  · obtain ⟨k, hk⟩ : ∃ k : Nat, na = ((k + 1 : Nat) : Int) := ⟨(na - 1).toNat, by omega⟩
    subst hk
    have h := shl_sum hsh hfa hg k (by omega)
    rw [show (((k + 1 : Nat) : Int) + 1).toNat = k + 1 + 1 by omega, show (((k + 1 : Nat) : Int)).toNat = k + 1 by omega]
    show dg 16 g (k + 1) + g ((k + 1 : Nat) : Int) * 2 ^ (16 * (k + 1)) = _
    rw [← h, hg _ (by omega) (by omega)]
    unfold shl
    have hb := sh_lo hsh (hfa (k : Int) (by omega) (by omega))
    have hu := p2_le (show sh.toNat ≤ 15 by omega)
    have e15 : (2 : Int) ^ 15 = 32768 := rfl
    rw [if_neg (by omega), if_pos (by omega), show ((k + 1 : Nat) : Int) - 1 = (k : Int) by omega, Int.zero_add, Int.emod_eq_of_lt hb.1 (by omega)]
set_option maxHeartbeats 4000000 in
set_option maxRecDepth 100000 in
theorem c_Mo_shiftedLeft (l : Launch) (D : va_G) (aC : Nat → ClassId) (r a : Nat) (fr fa : Int → Int) (na sh : Int) (hn : 1 ≤ na ∧ na ≤ 100) (hsh : 0 ≤ sh ∧ sh < 16) (hfa : ∀ j : Int, 0 ≤ j → j < na → 0 ≤ fa j ∧ fa j < 65536) : CT l D aC y_Mo_shiftedLeft (rd 1 22) [.ref a, .int (iI na), .int (iI sh), .ref r] [(r, eI aC 1200 fr), (a, eI aC 1200 fa)] (fun v w => v = some (.int (iI (ll (dg 16 fa na.toNat * 2 ^ sh.toNat)))) ∧ ∃ g : Int → Int, w = [(r, eI aC 1200 g), (a, eI aC 1200 fa)] ∧ nrm 16 g (na + 1).toNat ∧ dg 16 g (na + 1).toNat = dg 16 fa na.toNat * 2 ^ sh.toNat) := by
  refine CT.of (cc := b_Mo_shiftedLeft) (maxL := 7) (ret := (some .int)) (by decide +kernel) k_Mo_shiftedLeft (Nat.le_of_ble_eq_true rfl) ?_
  intro p e s m below meth c Q S hr hlocks hQ hK hN hP hD hS ls hl
  obtain ⟨hx, hb, hml, hown, hts⟩ := id S
  have hl : lv_has ls 7 [(0, .ref a), (1, .int (iI na)), (2, .int (iI sh)), (3, .ref r)] := hl
  refine lv_iload_n hx hb d_Mo_shiftedLeft_0 rfl (lv_at hl 2 rfl) ?_
  refine lv_iconst (v := iI 4) hx hb d_Mo_shiftedLeft_1 rfl ?_
  refine x_ishr hx hb d_Mo_shiftedLeft_2 (by omega) (by omega) ?_
  refine x_top _ (sh / 16) rfl ?_
  refine x_top (sh / 16) 0 (by omega) ?_
  refine lv_istore (lv' := [(4, .int (iI 0)), (0, .ref a), (1, .int (iI na)), (2, .int (iI sh)), (3, .ref r)]) hx hb d_Mo_shiftedLeft_3 hl (by decide) rfl (fun ls hl => ?_)
  refine lv_iload_n hx hb d_Mo_shiftedLeft_5 rfl (lv_at hl 3 rfl) ?_
  refine lv_bipush (v := iI 15) hx hb d_Mo_shiftedLeft_6 (by decide +kernel) ?_
  refine x_iand (v := (sh % 16)) hx hb d_Mo_shiftedLeft_8 (iI_m4 _) ?_
  refine x_top (sh % 16) sh (by omega) ?_
  refine lv_istore (lv' := [(5, .int (iI sh)), (4, .int (iI 0)), (0, .ref a), (1, .int (iI na)), (2, .int (iI sh)), (3, .ref r)]) hx hb d_Mo_shiftedLeft_9 hl (by decide) rfl (fun ls hl => ?_)
  refine lv_aload_n hx hb d_Mo_shiftedLeft_11 rfl (lv_at hl 5 rfl) ?_
  refine lv_iload_n hx hb d_Mo_shiftedLeft_12 rfl (lv_at hl 3 rfl) ?_
  refine lv_iload hx hb d_Mo_shiftedLeft_13 (lv_at hl 1 rfl) ?_
  refine x_iadd hx hb d_Mo_shiftedLeft_15 ?_
  refine lv_iconst (v := iI 0) hx hb d_Mo_shiftedLeft_16 rfl ?_
  refine x_iast hx hb hK hP hD hS 0 rfl (by omega) (by decide) d_Mo_shiftedLeft_17 (fun H locs hP hD hS => ?_)
  have hP : va_P D CL [(r, eI aC 1200 (updI fr (na + 0) 0)), (a, eI aC 1200 fa)] H := hP
  have hD : va_D (aW [(r, eI aC 1200 fr), (a, eI aC 1200 fa)]) [(r, eI aC 1200 (updI fr (na + 0) 0)), (a, eI aC 1200 fa)] := hD
  refine lv_iload_n hx hb d_Mo_shiftedLeft_18 rfl (lv_at hl 3 rfl) ?_
  refine lv_istore (lv' := [(6, .int (iI na)), (5, .int (iI sh)), (4, .int (iI 0)), (0, .ref a), (1, .int (iI na)), (2, .int (iI sh)), (3, .ref r)]) hx hb d_Mo_shiftedLeft_19 hl (by decide) rfl (fun ls hl => ?_)
  have L21 : ∀ (nn : Nat) (t : Int) (g : Int → Int) (H : Heap) (locs : List Loc) (ls : Array Slot), (-1 ≤ t ∧ t ≤ na) → (∀ j : Int, t < j → j ≤ na → g j = shl fa na sh j) → t + 1 < (nn : Int) → va_P D CL [(r, eI aC 1200 g), (a, eI aC 1200 fa)] H → va_D (aW [(r, eI aC 1200 fr), (a, eI aC 1200 fa)]) [(r, eI aC 1200 g), (a, eI aC 1200 fa)] → va_S (aW [(r, eI aC 1200 fr), (a, eI aC 1200 fa)]) s.heap H locs → lv_has ls 7 [(6, .int (iI t)), (5, .int (iI sh)), (4, .int (iI 0)), (0, .ref a), (1, .int (iI na)), (3, .ref r)] → W p l e (rd 1 22) s m ([.ref a, .int (iI na), .int (iI sh), .ref r]).toArray below meth c H locs 0 0 Q (F0 m 21 ls []) := by
    intro nn
    induction nn with
    | zero => intro t g H locs ls ht hg hnn; exact absurd hnn (by omega)
    | succ nn ih =>
      intro t g H locs ls ht hg hnn hP hD hS hl
      refine lv_iload hx hb d_Mo_shiftedLeft_21 (lv_at hl 0 rfl) ?_
      refine x_if_lt (tgt := 81) hx hb d_Mo_shiftedLeft_23 (by decide) (by omega) (fun c_23 => ?_) (fun c_23 => ?_)
      · refine lv_iconst (v := iI 0) hx hb d_Mo_shiftedLeft_81 rfl ?_
        refine lv_istore (lv' := [(6, .int (iI 0)), (5, .int (iI sh)), (4, .int (iI 0)), (0, .ref a), (1, .int (iI na)), (3, .ref r)]) hx hb d_Mo_shiftedLeft_82 hl (by decide) rfl (fun ls hl => ?_)
        refine lv_iload hx hb d_Mo_shiftedLeft_84 (lv_at hl 0 rfl) ?_
        refine lv_iload hx hb d_Mo_shiftedLeft_86 (lv_at hl 2 rfl) ?_
        refine x_icmp_ge (tgt := 102) hx hb d_Mo_shiftedLeft_88 (by decide) (by omega) (by omega) (fun c_88 => ?_) (fun c_88 => (by exfalso; omega))
        have hgs : ∀ j : Int, 0 ≤ j → j < na + 1 → g j = shl fa na sh j := fun j h1 h2 => hg j (by omega) (by omega)
        obtain ⟨hnr, hdg⟩ := shl_all hn hsh hfa hgs
        refine lv_aload_n hx hb d_Mo_shiftedLeft_102 rfl (lv_at hl 5 rfl) ?_
        refine lv_iload_n hx hb d_Mo_shiftedLeft_103 rfl (lv_at hl 4 rfl) ?_
        refine lv_iload hx hb d_Mo_shiftedLeft_104 (lv_at hl 2 rfl) ?_
        refine x_iadd hx hb d_Mo_shiftedLeft_106 ?_
        refine lv_iconst (v := iI 1) hx hb d_Mo_shiftedLeft_107 rfl ?_
        refine x_iadd hx hb d_Mo_shiftedLeft_108 ?_
        refine y_callS1 (V := .int (iI (trm g ((na + 0) + 1).toNat : Int))) S (c_Mo_trim l D aC r 1200 g ((na + 0) + 1) (by decide) (by omega) (fun z h1 h2 => by have := hnr z h1 (by omega); rw [p16] at this; exact this)) t_Mo_84 (rm_ok (by decide) (by decide)) hK hN hP [0] rfl rfl hl.1 rfl (Nat.le_of_ble_eq_true rfl) d_Mo_shiftedLeft_109 ⟨Nat.zero_le _, Nat.zero_le _⟩ ?_
        refine x_top (trm g ((na + 0) + 1).toNat : Int) (ll (dg 16 fa na.toNat * 2 ^ sh.toNat)) (by rw [Int.add_zero, trm_ll hnr, hdg]) ?_
        exact x_iret hx hb hr hlocks hQ (⟨rfl, g, rfl, hnr, hdg⟩) rfl hP hS d_Mo_shiftedLeft_112
      · refine lv_aload_n hx hb d_Mo_shiftedLeft_26 rfl (lv_at hl 5 rfl) ?_
        refine lv_iload hx hb d_Mo_shiftedLeft_27 (lv_at hl 0 rfl) ?_
        refine lv_iload hx hb d_Mo_shiftedLeft_29 (lv_at hl 2 rfl) ?_
        refine x_iadd hx hb d_Mo_shiftedLeft_31 ?_
        refine lv_iload hx hb d_Mo_shiftedLeft_32 (lv_at hl 0 rfl) ?_
        refine lv_iload_n hx hb d_Mo_shiftedLeft_34 rfl (lv_at hl 4 rfl) ?_
        refine x_icmp_ge (tgt := 48) hx hb d_Mo_shiftedLeft_35 (by decide) (by omega) (by omega) (fun c_35 => ?_) (fun c_35 => ?_)
        · refine lv_iconst (v := iI 0) hx hb d_Mo_shiftedLeft_48 rfl ?_
          refine lv_iload hx hb d_Mo_shiftedLeft_49 (lv_at hl 0 rfl) ?_
          refine x_if_le (tgt := 69) hx hb d_Mo_shiftedLeft_51 (by decide) (by omega) (fun c_51 => (by exfalso; omega)) (fun c_51 => ?_)
          refine lv_aload_n hx hb d_Mo_shiftedLeft_54 rfl (lv_at hl 3 rfl) ?_
          refine lv_iload hx hb d_Mo_shiftedLeft_55 (lv_at hl 0 rfl) ?_
          refine lv_iconst (v := iI 1) hx hb d_Mo_shiftedLeft_57 rfl ?_
          refine x_isub hx hb d_Mo_shiftedLeft_58 ?_
          refine x_iald hx hb hK hP 1 rfl (by omega) (by decide) d_Mo_shiftedLeft_59 ?_
          refine lv_bipush (v := iI 16) hx hb d_Mo_shiftedLeft_60 (by decide +kernel) ?_
          refine lv_iload hx hb d_Mo_shiftedLeft_62 (lv_at hl 1 rfl) ?_
          refine x_isub hx hb d_Mo_shiftedLeft_64 ?_
          have ha2 := hfa (t - 1) (by omega) (by omega)
          refine x_ishr hx hb d_Mo_shiftedLeft_65 (by omega) (by omega) ?_
          refine lv_goto (tgt := 70) hx hb d_Mo_shiftedLeft_66 (by decide) ?_
          have hP1 := p2_pos sh.toNat
          have hP2 := p2_le (show sh.toNat ≤ 15 by omega)
          have hP3 : (2 : Int) ^ 15 = 32768 := rfl
          refine x_ior (v := ((fa (t - 1)) / 2 ^ (16 - sh).toNat)) hx hb d_Mo_shiftedLeft_70 (iI_0or _) ?_
          refine x_ldc hx hb 65535 (by decide +kernel) hown (hts _ wk_Mo_88) d_Mo_shiftedLeft_71 ?_
          refine x_iand (v := (((fa (t - 1)) / 2 ^ (16 - sh).toNat) % 65536)) hx hb d_Mo_shiftedLeft_73 (iI_m16 _) ?_
          refine x_iast hx hb hK hP hD hS 0 rfl (by omega) (by decide) d_Mo_shiftedLeft_74 (fun H locs hP hD hS => ?_)
          have hP : va_P D CL [(r, eI aC 1200 (updI g (t + 0) (((fa (t - 1)) / 2 ^ (16 - sh).toNat) % 65536))), (a, eI aC 1200 fa)] H := hP
          have hD : va_D (aW [(r, eI aC 1200 fr), (a, eI aC 1200 fa)]) [(r, eI aC 1200 (updI g (t + 0) (((fa (t - 1)) / 2 ^ (16 - sh).toNat) % 65536))), (a, eI aC 1200 fa)] := hD
          refine lv_iinc (v := iI (t + (-1))) (lv' := [(6, .int (iI (t + (-1)))), (5, .int (iI sh)), (4, .int (iI 0)), (0, .ref a), (1, .int (iI na)), (3, .ref r)]) hx hb d_Mo_shiftedLeft_75 hl (k := 0) rfl (iI_add _ _) (by decide) rfl (fun ls hl => ?_)
          refine lv_goto (tgt := 21) hx hb d_Mo_shiftedLeft_78 (by decide) ?_
          exact ih (t + (-1)) (updI g (t + 0) (((fa (t - 1)) / 2 ^ (16 - sh).toNat) % 65536)) _ _ ls (by omega) (fun j h1 h2 => by
            by_cases hj : j = t
            · rw [hj, show t + 0 = t from Int.add_zero t, updI_s]; unfold shl; rw [if_neg (by omega), if_pos (by omega)]; rw [Int.zero_add]
            · rw [show t + 0 = t from Int.add_zero t, updI_n hj]; exact hg j (by omega) h2) (by omega) hP hD hS (lv_sub hl [0, 1, 2, 3, 4, 5] rfl)
        · refine lv_aload_n hx hb d_Mo_shiftedLeft_38 rfl (lv_at hl 3 rfl) ?_
          refine lv_iload hx hb d_Mo_shiftedLeft_39 (lv_at hl 0 rfl) ?_
          refine x_iald hx hb hK hP 1 rfl (by omega) (by decide) d_Mo_shiftedLeft_41 ?_
          refine lv_iload hx hb d_Mo_shiftedLeft_42 (lv_at hl 1 rfl) ?_
          have ha1 := hfa t (by omega) (by omega)
          refine x_ishl hx hb d_Mo_shiftedLeft_44 (by omega) ?_
          refine lv_goto (tgt := 49) hx hb d_Mo_shiftedLeft_45 (by decide) ?_
          refine lv_iload hx hb d_Mo_shiftedLeft_49 (lv_at hl 0 rfl) ?_
          refine x_if_le (tgt := 69) hx hb d_Mo_shiftedLeft_51 (by decide) (by omega) (fun c_51 => ?_) (fun c_51 => ?_)
          · refine lv_iconst (v := iI 0) hx hb d_Mo_shiftedLeft_69 rfl ?_
            have hP1 := p2_pos sh.toNat
            have hP2 := p2_le (show sh.toNat ≤ 15 by omega)
            have hP3 : (2 : Int) ^ 15 = 32768 := rfl
            refine x_ior (v := ((fa t) * 2 ^ sh.toNat)) hx hb d_Mo_shiftedLeft_70 (iI_or0 _) ?_
            refine x_ldc hx hb 65535 (by decide +kernel) hown (hts _ wk_Mo_88) d_Mo_shiftedLeft_71 ?_
            refine x_iand (v := (((fa t) * 2 ^ sh.toNat) % 65536)) hx hb d_Mo_shiftedLeft_73 (iI_m16 _) ?_
            refine x_iast hx hb hK hP hD hS 0 rfl (by omega) (by decide) d_Mo_shiftedLeft_74 (fun H locs hP hD hS => ?_)
            have hP : va_P D CL [(r, eI aC 1200 (updI g (t + 0) (((fa t) * 2 ^ sh.toNat) % 65536))), (a, eI aC 1200 fa)] H := hP
            have hD : va_D (aW [(r, eI aC 1200 fr), (a, eI aC 1200 fa)]) [(r, eI aC 1200 (updI g (t + 0) (((fa t) * 2 ^ sh.toNat) % 65536))), (a, eI aC 1200 fa)] := hD
            refine lv_iinc (v := iI (t + (-1))) (lv' := [(6, .int (iI (t + (-1)))), (5, .int (iI sh)), (4, .int (iI 0)), (0, .ref a), (1, .int (iI na)), (3, .ref r)]) hx hb d_Mo_shiftedLeft_75 hl (k := 0) rfl (iI_add _ _) (by decide) rfl (fun ls hl => ?_)
            refine lv_goto (tgt := 21) hx hb d_Mo_shiftedLeft_78 (by decide) ?_
            exact ih (t + (-1)) (updI g (t + 0) (((fa t) * 2 ^ sh.toNat) % 65536)) _ _ ls (by omega) (fun j h1 h2 => by
              by_cases hj : j = t
              · rw [hj, show t + 0 = t from Int.add_zero t, updI_s]; unfold shl; rw [if_pos (by omega), if_neg (by omega)]; rw [Int.add_zero]
              · rw [show t + 0 = t from Int.add_zero t, updI_n hj]; exact hg j (by omega) h2) (by omega) hP hD hS (lv_sub hl [0, 1, 2, 3, 4, 5] rfl)
          · refine lv_aload_n hx hb d_Mo_shiftedLeft_54 rfl (lv_at hl 3 rfl) ?_
            refine lv_iload hx hb d_Mo_shiftedLeft_55 (lv_at hl 0 rfl) ?_
            refine lv_iconst (v := iI 1) hx hb d_Mo_shiftedLeft_57 rfl ?_
            refine x_isub hx hb d_Mo_shiftedLeft_58 ?_
            refine x_iald hx hb hK hP 1 rfl (by omega) (by decide) d_Mo_shiftedLeft_59 ?_
            refine lv_bipush (v := iI 16) hx hb d_Mo_shiftedLeft_60 (by decide +kernel) ?_
            refine lv_iload hx hb d_Mo_shiftedLeft_62 (lv_at hl 1 rfl) ?_
            refine x_isub hx hb d_Mo_shiftedLeft_64 ?_
            have ha2 := hfa (t - 1) (by omega) (by omega)
            refine x_ishr hx hb d_Mo_shiftedLeft_65 (by omega) (by omega) ?_
            refine lv_goto (tgt := 70) hx hb d_Mo_shiftedLeft_66 (by decide) ?_
            have hP1 := p2_pos sh.toNat
            have hP2 := p2_le (show sh.toNat ≤ 15 by omega)
            have hP3 : (2 : Int) ^ 15 = 32768 := rfl
            refine x_ior (v := ((fa t) * 2 ^ sh.toNat + (fa (t - 1)) / 2 ^ (16 - sh).toNat)) hx hb d_Mo_shiftedLeft_70 (iI_or (k := sh.toNat) (sh_lo hsh ha2) ha1.1 (sh_hi hsh ha1 ha2)) ?_
            refine x_ldc hx hb 65535 (by decide +kernel) hown (hts _ wk_Mo_88) d_Mo_shiftedLeft_71 ?_
            refine x_iand (v := (((fa t) * 2 ^ sh.toNat + (fa (t - 1)) / 2 ^ (16 - sh).toNat) % 65536)) hx hb d_Mo_shiftedLeft_73 (iI_m16 _) ?_
            refine x_iast hx hb hK hP hD hS 0 rfl (by omega) (by decide) d_Mo_shiftedLeft_74 (fun H locs hP hD hS => ?_)
            have hP : va_P D CL [(r, eI aC 1200 (updI g (t + 0) (((fa t) * 2 ^ sh.toNat + (fa (t - 1)) / 2 ^ (16 - sh).toNat) % 65536))), (a, eI aC 1200 fa)] H := hP
            have hD : va_D (aW [(r, eI aC 1200 fr), (a, eI aC 1200 fa)]) [(r, eI aC 1200 (updI g (t + 0) (((fa t) * 2 ^ sh.toNat + (fa (t - 1)) / 2 ^ (16 - sh).toNat) % 65536))), (a, eI aC 1200 fa)] := hD
            refine lv_iinc (v := iI (t + (-1))) (lv' := [(6, .int (iI (t + (-1)))), (5, .int (iI sh)), (4, .int (iI 0)), (0, .ref a), (1, .int (iI na)), (3, .ref r)]) hx hb d_Mo_shiftedLeft_75 hl (k := 0) rfl (iI_add _ _) (by decide) rfl (fun ls hl => ?_)
            refine lv_goto (tgt := 21) hx hb d_Mo_shiftedLeft_78 (by decide) ?_
            exact ih (t + (-1)) (updI g (t + 0) (((fa t) * 2 ^ sh.toNat + (fa (t - 1)) / 2 ^ (16 - sh).toNat) % 65536)) _ _ ls (by omega) (fun j h1 h2 => by
              by_cases hj : j = t
              · rw [hj, show t + 0 = t from Int.add_zero t, updI_s]; unfold shl; rw [if_pos (by omega), if_pos (by omega)]
              · rw [show t + 0 = t from Int.add_zero t, updI_n hj]; exact hg j (by omega) h2) (by omega) hP hD hS (lv_sub hl [0, 1, 2, 3, 4, 5] rfl)
  exact L21 _ na (updI fr (na + 0) 0) _ _ ls (by omega) (fun j h1 h2 => by omega) (n_lt _) hP hD hS (lv_sub hl [0, 1, 2, 3, 4, 6] rfl)
