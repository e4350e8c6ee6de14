set_option maxHeartbeats 8000000 in
set_option maxRecDepth 100000 in
theorem law_1 {p : Program} {l : Launch} {e : Env} {s : State} {m : MethodId} {below : List Frame} {meth : Method} {c : Code} {D : va_G} {aC : Nat → ClassId} {sa : Nat → Nat} {a b : Nat → Nat} {ou od sb L : Nat} {xs : Nat → Int32} {Q : State → Prop} (C0 : LC p l s m meth c D aC sa sb L xs) {i : Int} {n1 n2 : Nat} (hi : 0 ≤ i ∧ i + 5 ≤ (L : Int)) (hn1 : n1 + 2 ≤ 601024) (hn2 : n2 + 12 ≤ 7293034) (kk : LK p l e s m below meth c D aC a b ou od sb Q i 841 (n1 + 2) (n2 + 12)) : LK p l e s m below meth c D aC a b ou od sb Q i 142 n1 n2 := by
  intro d M pd px pn fd mt ee gd mu eu er p2 f f1 f2 f3 f4 f5 z o1 o2 H locs ls hd hM hR hP hD hS hl
  obtain ⟨S, hXs, hbl, hL9, hst, hK, hN, hX, hNC⟩ := C0
  obtain ⟨hx, hb, hml, hown, hts⟩ := id S
  have hbA : ¬ (fun q : Nat => s.heap.size ≤ q) sb := Nat.not_le.mpr hbl
  have hn := hR.n
  have hrw := hM.rw
  have hcn := hM.cn
  have hen := hM.en
  have hpr := hM.pr
  refine lv_aload_n hx hb d_La_law_142 rfl (lv_at hl 4 rfl) ?_
  refine lv_aload_n hx hb d_La_law_143 rfl (lv_at hl 5 rfl) ?_
  refine lv_iload hx hb d_La_law_144 (lv_at hl 0 rfl) ?_
  refine lv_iconst (v := iI 1) hx hb d_La_law_146 rfl ?_
  refine x_iadd hx hb d_La_law_147 ?_
  refine x_sld hx hb hXs hbl hbA hS (by omega) (by omega) d_La_law_148 ?_
  have hsc148 := sc_r xs (i + 1)
  refine lv_aload_n hx hb d_La_law_149 rfl (lv_at hl 5 rfl) ?_
  refine lv_iload hx hb d_La_law_150 (lv_at hl 0 rfl) ?_
  refine lv_iconst (v := iI 2) hx hb d_La_law_152 rfl ?_
  refine x_iadd hx hb d_La_law_153 ?_
  refine x_sld hx hb hXs hbl hbA hS (by omega) (by omega) d_La_law_154 ?_
  have hsc154 := sc_r xs (i + 2)
  refine x_i2d hx hb d_La_law_155 (by omega) ?_
  refine x_ldc2d hx hb 1 (-3) (by decide +kernel) hown (hts _ wk_La_55) d_La_law_156 ?_
  refine x_dmul1 hx hb d_La_law_159 (by unfold dOk; omega) (by unfold dOk; omega) (by unfold dOk; omega) ?_
  refine x_topd _ _ (sc xs (i + 2)) (-3) (congrArg (dM (sc xs (i + 2))) (show (0 : Int) + (-3) = -3 from rfl)) ?_
  refine lv_aload_n hx hb d_La_law_160 rfl (lv_at hl 5 rfl) ?_
  refine lv_iload hx hb d_La_law_161 (lv_at hl 0 rfl) ?_
  refine lv_iconst (v := iI 3) hx hb d_La_law_163 rfl ?_
  refine x_iadd hx hb d_La_law_164 ?_
  refine x_sld hx hb hXs hbl hbA hS (by omega) (by omega) d_La_law_165 ?_
  have hsc165 := sc_r xs (i + 3)
  refine x_i2d hx hb d_La_law_166 (by omega) ?_
  refine x_ldc2d hx hb 1 (-3) (by decide +kernel) hown (hts _ wk_La_55) d_La_law_167 ?_
  refine x_dmul1 hx hb d_La_law_170 (by unfold dOk; omega) (by unfold dOk; omega) (by unfold dOk; omega) ?_
  refine x_topd _ _ (sc xs (i + 3)) (-3) (congrArg (dM (sc xs (i + 3))) (show (0 : Int) + (-3) = -3 from rfl)) ?_
  refine lv_aload_n hx hb d_La_law_171 rfl (lv_at hl 2 rfl) ?_
  refine x_callW S (c_La_row l D aC sa hst a d hd (sc xs (i + 1)) (by omega) (sc xs (i + 2)) (by omega) (sc xs (i + 3)) (by omega) ou o1) tl_67 ⟨rfl, rfl, by decide, by decide⟩ hK hN hX hNC hP hD hS [0, 8, 18, 19, 20, 21, 22, 23, 24, 25] [] rfl (by decide +kernel) (fun v9 w9 hw => by rcases hw with ⟨rfl, hok, rfl⟩ | ⟨rfl, hok, rfl⟩ | ⟨rfl, hok, rfl⟩ <;> exact ⟨rfl, Nat.le_of_ble_eq_true rfl⟩) rfl hl.1 rfl (Nat.le_of_ble_eq_true rfl) d_La_law_172 ⟨by show n1 + 1 ≤ 601024; omega, by show n2 + 6 ≤ 7293034; omega⟩ (fun v w1 ws1 H locs e9 hw hP hD hS => ?_)
  rcases hw with ⟨rfl, hok, rfl⟩ | ⟨rfl, hok, rfl⟩ | ⟨rfl, hok, rfl⟩
  · have e9 : ws1 = [(ou, eJ aC 1 (updI o1 0 d.rc)), (od, eD aC 1 o2), (a 44, .inr (3, [.ref (a 45), .int (iI px), .int (iI pn)])), (a 45, eJ aC 6 pd), (a 46, .inr (4, [.ref (a 47), .long (lI mt), .int (iI ee)])), (a 47, eJ aC 112 fd), (a 48, .inr (4, [.ref (a 49), .long (lI mu), .int (iI eu)])), (a 49, eJ aC 112 gd), (a 0, .inr (5, [.ref (a 1), .ref (a 4), .ref (a 7), .ref (a 10), .ref (a 21), .ref (a 32), .ref (a 38), .ref (a 44), .ref (a 46), .ref (a 48)])), (a 1, .inr (0, [.ref (a 2), .ref (a 3)])), (a 2, eJ aC 1 d.om), (a 3, eI aC 1 d.oe), (a 4, .inr (0, [.ref (a 5), .ref (a 6)])), (a 5, eJ aC 1 d.nm), (a 6, eI aC 1 d.ne), (a 7, .inr (0, [.ref (a 8), .ref (a 9)])), (a 8, eJ aC 16 d.cm), (a 9, eI aC 16 d.ce), (a 10, .inr (1, [.ref (a 11), .ref (a 12), .ref (a 15), .ref (a 18), .int (iI (d.rc + 1))])), (a 11, eI aC 12 (updI d.rl d.rc (sc xs (i + 1)))), (a 12, .inr (0, [.ref (a 13), .ref (a 14)])), (a 13, eJ aC 12 (cu ((sc xs (i + 1)) % 2) d.rlm d.rc ((sc xs (i + 2)) * 2 ^ nt (sc xs (i + 2))))), (a 14, eI aC 12 (cu ((sc xs (i + 1)) % 2) d.rle d.rc (nx (sc xs (i + 2)) (-3) 0))), (a 15, .inr (0, [.ref (a 16), .ref (a 17)])), (a 16, eJ aC 12 (cu ((sc xs (i + 1)) / 2 % 2 * 2) d.rhm d.rc ((sc xs (i + 3)) * 2 ^ nt (sc xs (i + 3))))), (a 17, eI aC 12 (cu ((sc xs (i + 1)) / 2 % 2 * 2) d.rhe d.rc (nx (sc xs (i + 3)) (-3) 0))), (a 18, .inr (0, [.ref (a 19), .ref (a 20)])), (a 19, eJ aC 12 d.rvm), (a 20, eI aC 12 d.rve), (a 21, .inr (1, [.ref (a 22), .ref (a 23), .ref (a 26), .ref (a 29), .int (iI d.cc)])), (a 22, eI aC 16 d.cl), (a 23, .inr (0, [.ref (a 24), .ref (a 25)])), (a 24, eJ aC 16 d.clm), (a 25, eI aC 16 d.cle), (a 26, .inr (0, [.ref (a 27), .ref (a 28)])), (a 27, eJ aC 16 d.chm), (a 28, eI aC 16 d.che), (a 29, .inr (0, [.ref (a 30), .ref (a 31)])), (a 30, eJ aC 16 d.cvm), (a 31, eI aC 16 d.cve), (a 32, .inr (2, [.ref (a 33), .ref (a 34), .ref (a 35), .int (iI d.ec)])), (a 33, eI aC 100 d.e1), (a 34, eI aC 100 d.e2), (a 35, .inr (0, [.ref (a 36), .ref (a 37)])), (a 36, eJ aC 100 d.em), (a 37, eI aC 100 d.ee), (a 38, .inr (2, [.ref (a 39), .ref (a 40), .ref (a 41), .int (iI d.pc)])), (a 39, eI aC 60 d.p1), (a 40, eI aC 60 d.p2), (a 41, .inr (0, [.ref (a 42), .ref (a 43)])), (a 42, eJ aC 60 d.pm), (a 43, eI aC 60 d.pe), (b 16, eI aC 440 f), (b 18, eI aC 1200 f1), (b 19, eI aC 1200 f2), (b 20, eI aC 1200 f3), (b 21, eI aC 1200 f4), (b 22, eI aC 1200 f5), (b 0, .inr (6, [.int (iI er), .int (iI M.rw), .int (iI M.cn), .int (iI M.en), .int (iI M.pr), .double (dM M.ko (-3)), .ref (b 1), .ref (b 2), .ref (b 3), .ref (b 4), .ref (b 5), .ref (b 6), .ref (b 7), .ref (b 8), .ref (b 9), .ref (b 10), .ref (b 11), .ref (b 12), .ref (b 13), .ref (b 14), .ref (b 15), .int (iI p2), .ref (b 16), .ref (b 17), .ref (b 18), .ref (b 19), .ref (b 20), .ref (b 21), .ref (b 22)])), (b 17, eI aC 440 z), (b 1, eD aC 192 (dA M.ka c3)), (b 2, eD aC 16 (dA M.kc c3)), (b 3, eD aC 256 (dA M.kq c3)), (b 4, eD aC 16 (dA M.kl c3)), (b 5, eD aC 16 (dA M.kh c3)), (b 6, eD aC 12 (dA M.krl c3)), (b 7, eD aC 12 (dA M.krh c3)), (b 8, eD aC 16 (dA M.kx M.xb)), (b 9, eD aC 12 (dA M.ky M.yb)), (b 10, eZ aC 192 M.ai), (b 11, eZ aC 256 M.qi), (b 12, eZ aC 16 M.li), (b 13, eZ aC 16 M.hi), (b 14, eZ aC 12 M.rli), (b 15, eZ aC 12 M.rhi)] := e9
    subst e9
    change W p l e room_1 s m #[Value.ref sb] below meth c H locs (n1 + 1) (n2 + 6) Q (F0 m 175 ls [.int (iI 0)])
    refine lv_istore (lv' := [(6, .int (iI 0)), (5, .int (iI i)), (4, .ref od), (3, .ref ou), (2, .ref (b 0)), (1, .ref (a 0)), (0, .ref sb)]) hx hb d_La_law_175 hl (by decide) rfl (fun ls hl => ?_)
    refine lv_aload_n hx hb d_La_law_177 rfl (lv_at hl 4 rfl) ?_
    refine lv_aload_n hx hb d_La_law_178 rfl (lv_at hl 6 rfl) ?_
    refine lv_iload hx hb d_La_law_179 (lv_at hl 1 rfl) ?_
    refine lv_iconst (v := iI 1) hx hb d_La_law_181 rfl ?_
    refine x_iadd hx hb d_La_law_182 ?_
    refine x_sld hx hb hXs hbl hbA hS (by omega) (by omega) d_La_law_183 ?_
    have hsc183 := sc_r xs (i + 1)
    refine lv_aload_n hx hb d_La_law_184 rfl (lv_at hl 6 rfl) ?_
    refine lv_iload hx hb d_La_law_185 (lv_at hl 1 rfl) ?_
    refine lv_iconst (v := iI 2) hx hb d_La_law_187 rfl ?_
    refine x_iadd hx hb d_La_law_188 ?_
    refine x_sld hx hb hXs hbl hbA hS (by omega) (by omega) d_La_law_189 ?_
    have hsc189 := sc_r xs (i + 2)
    refine x_i2d hx hb d_La_law_190 (by omega) ?_
    refine x_ldc2d hx hb 1 (-3) (by decide +kernel) hown (hts _ wk_La_55) d_La_law_191 ?_
    refine x_dmul1 hx hb d_La_law_194 (by unfold dOk; omega) (by unfold dOk; omega) (by unfold dOk; omega) ?_
    refine x_topd _ _ (sc xs (i + 2)) (-3) (congrArg (dM (sc xs (i + 2))) (show (0 : Int) + (-3) = -3 from rfl)) ?_
    refine lv_aload_n hx hb d_La_law_195 rfl (lv_at hl 6 rfl) ?_
    refine lv_iload hx hb d_La_law_196 (lv_at hl 1 rfl) ?_
    refine lv_iconst (v := iI 3) hx hb d_La_law_198 rfl ?_
    refine x_iadd hx hb d_La_law_199 ?_
    refine x_sld hx hb hXs hbl hbA hS (by omega) (by omega) d_La_law_200 ?_
    have hsc200 := sc_r xs (i + 3)
    refine x_i2d hx hb d_La_law_201 (by omega) ?_
    refine x_ldc2d hx hb 1 (-3) (by decide +kernel) hown (hts _ wk_La_55) d_La_law_202 ?_
    refine x_dmul1 hx hb d_La_law_205 (by unfold dOk; omega) (by unfold dOk; omega) (by unfold dOk; omega) ?_
    refine x_topd _ _ (sc xs (i + 3)) (-3) (congrArg (dM (sc xs (i + 3))) (show (0 : Int) + (-3) = -3 from rfl)) ?_
    refine x_callVG S (c_Mo_row l D aC b M hM er p2 (sc xs (i + 1)) (sc xs (i + 2)) (sc xs (i + 3)) (by omega) (by omega) (by omega)) t_La_70 ⟨rfl, rfl, by decide, by decide⟩ hK hN hP hD hS [58, 65, 66, 73, 74] [] rfl (by decide +kernel) (fun v9 w9 hw => by rcases hw with ⟨h1, rfl, rfl⟩ | ⟨h1, h2, rfl, rfl⟩ | ⟨h1, h2, rfl, rfl⟩ <;> exact ⟨rfl, Nat.le_of_ble_eq_true rfl⟩) 0 6 rfl rfl rfl hl.1 rfl (Nat.le_of_ble_eq_true rfl) d_La_law_206 ⟨by show n1 + 1 ≤ 601024; omega, by show n2 + 6 ≤ 7293034; omega⟩ (fun v w1 ws1 H locs e9 hw hP hD hS => ?_)
    rcases hw with ⟨h1, rfl, rfl⟩ | ⟨h1, h2, rfl, rfl⟩ | ⟨h1, h2, rfl, rfl⟩
    · exfalso; omega
    · exfalso; omega
    · have e9 : ws1 = [(ou, eJ aC 1 (updI o1 0 d.rc)), (od, eD aC 1 o2), (a 44, .inr (3, [.ref (a 45), .int (iI px), .int (iI pn)])), (a 45, eJ aC 6 pd), (a 46, .inr (4, [.ref (a 47), .long (lI mt), .int (iI ee)])), (a 47, eJ aC 112 fd), (a 48, .inr (4, [.ref (a 49), .long (lI mu), .int (iI eu)])), (a 49, eJ aC 112 gd), (a 0, .inr (5, [.ref (a 1), .ref (a 4), .ref (a 7), .ref (a 10), .ref (a 21), .ref (a 32), .ref (a 38), .ref (a 44), .ref (a 46), .ref (a 48)])), (a 1, .inr (0, [.ref (a 2), .ref (a 3)])), (a 2, eJ aC 1 d.om), (a 3, eI aC 1 d.oe), (a 4, .inr (0, [.ref (a 5), .ref (a 6)])), (a 5, eJ aC 1 d.nm), (a 6, eI aC 1 d.ne), (a 7, .inr (0, [.ref (a 8), .ref (a 9)])), (a 8, eJ aC 16 d.cm), (a 9, eI aC 16 d.ce), (a 10, .inr (1, [.ref (a 11), .ref (a 12), .ref (a 15), .ref (a 18), .int (iI (d.rc + 1))])), (a 11, eI aC 12 (updI d.rl d.rc (sc xs (i + 1)))), (a 12, .inr (0, [.ref (a 13), .ref (a 14)])), (a 13, eJ aC 12 (cu ((sc xs (i + 1)) % 2) d.rlm d.rc ((sc xs (i + 2)) * 2 ^ nt (sc xs (i + 2))))), (a 14, eI aC 12 (cu ((sc xs (i + 1)) % 2) d.rle d.rc (nx (sc xs (i + 2)) (-3) 0))), (a 15, .inr (0, [.ref (a 16), .ref (a 17)])), (a 16, eJ aC 12 (cu ((sc xs (i + 1)) / 2 % 2 * 2) d.rhm d.rc ((sc xs (i + 3)) * 2 ^ nt (sc xs (i + 3))))), (a 17, eI aC 12 (cu ((sc xs (i + 1)) / 2 % 2 * 2) d.rhe d.rc (nx (sc xs (i + 3)) (-3) 0))), (a 18, .inr (0, [.ref (a 19), .ref (a 20)])), (a 19, eJ aC 12 d.rvm), (a 20, eI aC 12 d.rve), (a 21, .inr (1, [.ref (a 22), .ref (a 23), .ref (a 26), .ref (a 29), .int (iI d.cc)])), (a 22, eI aC 16 d.cl), (a 23, .inr (0, [.ref (a 24), .ref (a 25)])), (a 24, eJ aC 16 d.clm), (a 25, eI aC 16 d.cle), (a 26, .inr (0, [.ref (a 27), .ref (a 28)])), (a 27, eJ aC 16 d.chm), (a 28, eI aC 16 d.che), (a 29, .inr (0, [.ref (a 30), .ref (a 31)])), (a 30, eJ aC 16 d.cvm), (a 31, eI aC 16 d.cve), (a 32, .inr (2, [.ref (a 33), .ref (a 34), .ref (a 35), .int (iI d.ec)])), (a 33, eI aC 100 d.e1), (a 34, eI aC 100 d.e2), (a 35, .inr (0, [.ref (a 36), .ref (a 37)])), (a 36, eJ aC 100 d.em), (a 37, eI aC 100 d.ee), (a 38, .inr (2, [.ref (a 39), .ref (a 40), .ref (a 41), .int (iI d.pc)])), (a 39, eI aC 60 d.p1), (a 40, eI aC 60 d.p2), (a 41, .inr (0, [.ref (a 42), .ref (a 43)])), (a 42, eJ aC 60 d.pm), (a 43, eI aC 60 d.pe), (b 16, eI aC 440 f), (b 18, eI aC 1200 f1), (b 19, eI aC 1200 f2), (b 20, eI aC 1200 f3), (b 21, eI aC 1200 f4), (b 22, eI aC 1200 f5), (b 0, .inr (6, [.int (iI 0), .int (iI (M.rw + 1)), .int (iI M.cn), .int (iI M.en), .int (iI M.pr), .double (dM M.ko (-3)), .ref (b 1), .ref (b 2), .ref (b 3), .ref (b 4), .ref (b 5), .ref (b 6), .ref (b 7), .ref (b 8), .ref (b 9), .ref (b 10), .ref (b 11), .ref (b 12), .ref (b 13), .ref (b 14), .ref (b 15), .int (iI p2), .ref (b 16), .ref (b 17), .ref (b 18), .ref (b 19), .ref (b 20), .ref (b 21), .ref (b 22)])), (b 17, eI aC 440 z), (b 1, eD aC 192 (dA M.ka c3)), (b 2, eD aC 16 (dA M.kc c3)), (b 3, eD aC 256 (dA M.kq c3)), (b 4, eD aC 16 (dA M.kl c3)), (b 5, eD aC 16 (dA M.kh c3)), (b 6, eD aC 12 (dA (updI M.krl M.rw (sc xs (i + 2))) c3)), (b 7, eD aC 12 (dA (updI M.krh M.rw (sc xs (i + 3))) c3)), (b 8, eD aC 16 (dA M.kx M.xb)), (b 9, eD aC 12 (dA M.ky M.yb)), (b 10, eZ aC 192 M.ai), (b 11, eZ aC 256 M.qi), (b 12, eZ aC 16 M.li), (b 13, eZ aC 16 M.hi), (b 14, eZ aC 12 (updI M.rli M.rw ((sc xs (i + 1)) % 2))), (b 15, eZ aC 12 (updI M.rhi M.rw ((sc xs (i + 1)) / 2 % 2)))] := e9
      subst e9
      change W p l e room_1 s m #[Value.ref sb] below meth c H locs (n1 + 1) (n2 + 6) Q (F0 m 209 ls [.int (iI M.rw)])
      refine lv_istore (lv' := [(7, .int (iI M.rw)), (6, .int (iI 0)), (5, .int (iI i)), (4, .ref od), (3, .ref ou), (2, .ref (b 0)), (1, .ref (a 0)), (0, .ref sb)]) hx hb d_La_law_209 hl (by decide) rfl (fun ls hl => ?_)
      refine lv_aload_n hx hb d_La_law_211 rfl (lv_at hl 5 rfl) ?_
      refine y_callV1 (V := .int (iI 0)) S (c_Mo_thrown l D aC b (mRow M (sc xs (i + 1)) (sc xs (i + 2)) (sc xs (i + 3))) 0 p2) t_La_63 (rm_9 (by decide) (by decide)) hK hN hP [58] rfl 0 6 rfl rfl rfl hl.1 rfl (Nat.le_of_ble_eq_true rfl) d_La_law_212 ⟨by show n1 + 1 ≤ 601024; omega, by show n2 + 6 ≤ 7293034; omega⟩ ?_
      refine lv_iload hx hb d_La_law_215 (lv_at hl 1 rfl) ?_
      refine x_icmp_eq (tgt := 222) hx hb d_La_law_217 (by decide) (by omega) (by omega) (fun c_217 => ?_) (fun c_217 => (by exfalso; omega))
      refine lv_iload hx hb d_La_law_222 (lv_at hl 1 rfl) ?_
      refine x_if_ne (tgt := 239) hx hb d_La_law_224 (by decide) (by decide) (fun c_224 => (by exfalso; omega)) (fun c_224 => ?_)
      refine lv_aload_n hx hb d_La_law_227 rfl (lv_at hl 4 rfl) ?_
      refine lv_iconst (v := iI 0) hx hb d_La_law_228 rfl ?_
      refine x_lald hx hb hK hP 0 rfl (by omega) (by decide) d_La_law_229 ?_
      refine x_topl ((updI o1 0 d.rc) 0) d.rc (updI_s _ _ _) ?_
      refine lv_iload hx hb d_La_law_230 (lv_at hl 0 rfl) ?_
      refine x_i2l hx hb d_La_law_232 (by omega) ?_
      refine x_lcmp_eq (tgt := 239) hx hb d_La_law_233 d_La_law_234 (by decide) (by omega) (by omega) (fun c_233 => ?_) (fun c_233 => (by exfalso; omega))
      refine lv_goto (tgt := 841) hx hb d_La_law_239 (by decide) ?_
      refine W.widen (k := n1 + 2) (n := n2 + 12) (by omega) (by omega) ?_
      exact kk (dRow d (sc xs (i + 1)) (sc xs (i + 2)) (sc xs (i + 3))) (mRow M (sc xs (i + 1)) (sc xs (i + 2)) (sc xs (i + 3))) pd px pn fd mt ee gd mu eu 0 p2 f f1 f2 f3 f4 f5 z (updI o1 0 d.rc) o2 _ _ _ (DI_Row hd hM hR (by omega) (by omega) (by omega) (by omega)) (MI_Row hM (by omega) (by omega) (by omega) (by omega)) (Rel_Row hd hM hR (by omega) (by omega) (by omega) (by omega)) hP hD hS (lv_sub hl [2, 3, 4, 5, 6, 7] rfl)
  · have e9 : ws1 = [(ou, eJ aC 1 o1), (od, eD aC 1 o2), (a 44, .inr (3, [.ref (a 45), .int (iI px), .int (iI pn)])), (a 45, eJ aC 6 pd), (a 46, .inr (4, [.ref (a 47), .long (lI mt), .int (iI ee)])), (a 47, eJ aC 112 fd), (a 48, .inr (4, [.ref (a 49), .long (lI mu), .int (iI eu)])), (a 49, eJ aC 112 gd), (a 0, .inr (5, [.ref (a 1), .ref (a 4), .ref (a 7), .ref (a 10), .ref (a 21), .ref (a 32), .ref (a 38), .ref (a 44), .ref (a 46), .ref (a 48)])), (a 1, .inr (0, [.ref (a 2), .ref (a 3)])), (a 2, eJ aC 1 d.om), (a 3, eI aC 1 d.oe), (a 4, .inr (0, [.ref (a 5), .ref (a 6)])), (a 5, eJ aC 1 d.nm), (a 6, eI aC 1 d.ne), (a 7, .inr (0, [.ref (a 8), .ref (a 9)])), (a 8, eJ aC 16 d.cm), (a 9, eI aC 16 d.ce), (a 10, .inr (1, [.ref (a 11), .ref (a 12), .ref (a 15), .ref (a 18), .int (iI d.rc)])), (a 11, eI aC 12 d.rl), (a 12, .inr (0, [.ref (a 13), .ref (a 14)])), (a 13, eJ aC 12 d.rlm), (a 14, eI aC 12 d.rle), (a 15, .inr (0, [.ref (a 16), .ref (a 17)])), (a 16, eJ aC 12 d.rhm), (a 17, eI aC 12 d.rhe), (a 18, .inr (0, [.ref (a 19), .ref (a 20)])), (a 19, eJ aC 12 d.rvm), (a 20, eI aC 12 d.rve), (a 21, .inr (1, [.ref (a 22), .ref (a 23), .ref (a 26), .ref (a 29), .int (iI d.cc)])), (a 22, eI aC 16 d.cl), (a 23, .inr (0, [.ref (a 24), .ref (a 25)])), (a 24, eJ aC 16 d.clm), (a 25, eI aC 16 d.cle), (a 26, .inr (0, [.ref (a 27), .ref (a 28)])), (a 27, eJ aC 16 d.chm), (a 28, eI aC 16 d.che), (a 29, .inr (0, [.ref (a 30), .ref (a 31)])), (a 30, eJ aC 16 d.cvm), (a 31, eI aC 16 d.cve), (a 32, .inr (2, [.ref (a 33), .ref (a 34), .ref (a 35), .int (iI d.ec)])), (a 33, eI aC 100 d.e1), (a 34, eI aC 100 d.e2), (a 35, .inr (0, [.ref (a 36), .ref (a 37)])), (a 36, eJ aC 100 d.em), (a 37, eI aC 100 d.ee), (a 38, .inr (2, [.ref (a 39), .ref (a 40), .ref (a 41), .int (iI d.pc)])), (a 39, eI aC 60 d.p1), (a 40, eI aC 60 d.p2), (a 41, .inr (0, [.ref (a 42), .ref (a 43)])), (a 42, eJ aC 60 d.pm), (a 43, eI aC 60 d.pe), (b 16, eI aC 440 f), (b 18, eI aC 1200 f1), (b 19, eI aC 1200 f2), (b 20, eI aC 1200 f3), (b 21, eI aC 1200 f4), (b 22, eI aC 1200 f5), (b 0, .inr (6, [.int (iI er), .int (iI M.rw), .int (iI M.cn), .int (iI M.en), .int (iI M.pr), .double (dM M.ko (-3)), .ref (b 1), .ref (b 2), .ref (b 3), .ref (b 4), .ref (b 5), .ref (b 6), .ref (b 7), .ref (b 8), .ref (b 9), .ref (b 10), .ref (b 11), .ref (b 12), .ref (b 13), .ref (b 14), .ref (b 15), .int (iI p2), .ref (b 16), .ref (b 17), .ref (b 18), .ref (b 19), .ref (b 20), .ref (b 21), .ref (b 22)])), (b 17, eI aC 440 z), (b 1, eD aC 192 (dA M.ka c3)), (b 2, eD aC 16 (dA M.kc c3)), (b 3, eD aC 256 (dA M.kq c3)), (b 4, eD aC 16 (dA M.kl c3)), (b 5, eD aC 16 (dA M.kh c3)), (b 6, eD aC 12 (dA M.krl c3)), (b 7, eD aC 12 (dA M.krh c3)), (b 8, eD aC 16 (dA M.kx M.xb)), (b 9, eD aC 12 (dA M.ky M.yb)), (b 10, eZ aC 192 M.ai), (b 11, eZ aC 256 M.qi), (b 12, eZ aC 16 M.li), (b 13, eZ aC 16 M.hi), (b 14, eZ aC 12 M.rli), (b 15, eZ aC 12 M.rhi)] := e9
    subst e9
    change W p l e room_1 s m #[Value.ref sb] below meth c H locs (n1 + 1) (n2 + 6) Q (F0 m 175 ls [.int (iI 1)])
    refine lv_istore (lv' := [(6, .int (iI 1)), (5, .int (iI i)), (4, .ref od), (3, .ref ou), (2, .ref (b 0)), (1, .ref (a 0)), (0, .ref sb)]) hx hb d_La_law_175 hl (by decide) rfl (fun ls hl => ?_)
    refine lv_aload_n hx hb d_La_law_177 rfl (lv_at hl 4 rfl) ?_
    refine lv_aload_n hx hb d_La_law_178 rfl (lv_at hl 6 rfl) ?_
    refine lv_iload hx hb d_La_law_179 (lv_at hl 1 rfl) ?_
    refine lv_iconst (v := iI 1) hx hb d_La_law_181 rfl ?_
    refine x_iadd hx hb d_La_law_182 ?_
    refine x_sld hx hb hXs hbl hbA hS (by omega) (by omega) d_La_law_183 ?_
    have hsc183 := sc_r xs (i + 1)
    refine lv_aload_n hx hb d_La_law_184 rfl (lv_at hl 6 rfl) ?_
    refine lv_iload hx hb d_La_law_185 (lv_at hl 1 rfl) ?_
    refine lv_iconst (v := iI 2) hx hb d_La_law_187 rfl ?_
    refine x_iadd hx hb d_La_law_188 ?_
    refine x_sld hx hb hXs hbl hbA hS (by omega) (by omega) d_La_law_189 ?_
    have hsc189 := sc_r xs (i + 2)
    refine x_i2d hx hb d_La_law_190 (by omega) ?_
    refine x_ldc2d hx hb 1 (-3) (by decide +kernel) hown (hts _ wk_La_55) d_La_law_191 ?_
    refine x_dmul1 hx hb d_La_law_194 (by unfold dOk; omega) (by unfold dOk; omega) (by unfold dOk; omega) ?_
    refine x_topd _ _ (sc xs (i + 2)) (-3) (congrArg (dM (sc xs (i + 2))) (show (0 : Int) + (-3) = -3 from rfl)) ?_
    refine lv_aload_n hx hb d_La_law_195 rfl (lv_at hl 6 rfl) ?_
    refine lv_iload hx hb d_La_law_196 (lv_at hl 1 rfl) ?_
    refine lv_iconst (v := iI 3) hx hb d_La_law_198 rfl ?_
    refine x_iadd hx hb d_La_law_199 ?_
    refine x_sld hx hb hXs hbl hbA hS (by omega) (by omega) d_La_law_200 ?_
    have hsc200 := sc_r xs (i + 3)
    refine x_i2d hx hb d_La_law_201 (by omega) ?_
    refine x_ldc2d hx hb 1 (-3) (by decide +kernel) hown (hts _ wk_La_55) d_La_law_202 ?_
    refine x_dmul1 hx hb d_La_law_205 (by unfold dOk; omega) (by unfold dOk; omega) (by unfold dOk; omega) ?_
    refine x_topd _ _ (sc xs (i + 3)) (-3) (congrArg (dM (sc xs (i + 3))) (show (0 : Int) + (-3) = -3 from rfl)) ?_
    refine x_callVG S (c_Mo_row l D aC b M hM er p2 (sc xs (i + 1)) (sc xs (i + 2)) (sc xs (i + 3)) (by omega) (by omega) (by omega)) t_La_70 ⟨rfl, rfl, by decide, by decide⟩ hK hN hP hD hS [58, 65, 66, 73, 74] [] rfl (by decide +kernel) (fun v9 w9 hw => by rcases hw with ⟨h1, rfl, rfl⟩ | ⟨h1, h2, rfl, rfl⟩ | ⟨h1, h2, rfl, rfl⟩ <;> exact ⟨rfl, Nat.le_of_ble_eq_true rfl⟩) 0 6 rfl rfl rfl hl.1 rfl (Nat.le_of_ble_eq_true rfl) d_La_law_206 ⟨by show n1 + 1 ≤ 601024; omega, by show n2 + 6 ≤ 7293034; omega⟩ (fun v w1 ws1 H locs e9 hw hP hD hS => ?_)
    rcases hw with ⟨h1, rfl, rfl⟩ | ⟨h1, h2, rfl, rfl⟩ | ⟨h1, h2, rfl, rfl⟩
    · have e9 : ws1 = [(ou, eJ aC 1 o1), (od, eD aC 1 o2), (a 44, .inr (3, [.ref (a 45), .int (iI px), .int (iI pn)])), (a 45, eJ aC 6 pd), (a 46, .inr (4, [.ref (a 47), .long (lI mt), .int (iI ee)])), (a 47, eJ aC 112 fd), (a 48, .inr (4, [.ref (a 49), .long (lI mu), .int (iI eu)])), (a 49, eJ aC 112 gd), (a 0, .inr (5, [.ref (a 1), .ref (a 4), .ref (a 7), .ref (a 10), .ref (a 21), .ref (a 32), .ref (a 38), .ref (a 44), .ref (a 46), .ref (a 48)])), (a 1, .inr (0, [.ref (a 2), .ref (a 3)])), (a 2, eJ aC 1 d.om), (a 3, eI aC 1 d.oe), (a 4, .inr (0, [.ref (a 5), .ref (a 6)])), (a 5, eJ aC 1 d.nm), (a 6, eI aC 1 d.ne), (a 7, .inr (0, [.ref (a 8), .ref (a 9)])), (a 8, eJ aC 16 d.cm), (a 9, eI aC 16 d.ce), (a 10, .inr (1, [.ref (a 11), .ref (a 12), .ref (a 15), .ref (a 18), .int (iI d.rc)])), (a 11, eI aC 12 d.rl), (a 12, .inr (0, [.ref (a 13), .ref (a 14)])), (a 13, eJ aC 12 d.rlm), (a 14, eI aC 12 d.rle), (a 15, .inr (0, [.ref (a 16), .ref (a 17)])), (a 16, eJ aC 12 d.rhm), (a 17, eI aC 12 d.rhe), (a 18, .inr (0, [.ref (a 19), .ref (a 20)])), (a 19, eJ aC 12 d.rvm), (a 20, eI aC 12 d.rve), (a 21, .inr (1, [.ref (a 22), .ref (a 23), .ref (a 26), .ref (a 29), .int (iI d.cc)])), (a 22, eI aC 16 d.cl), (a 23, .inr (0, [.ref (a 24), .ref (a 25)])), (a 24, eJ aC 16 d.clm), (a 25, eI aC 16 d.cle), (a 26, .inr (0, [.ref (a 27), .ref (a 28)])), (a 27, eJ aC 16 d.chm), (a 28, eI aC 16 d.che), (a 29, .inr (0, [.ref (a 30), .ref (a 31)])), (a 30, eJ aC 16 d.cvm), (a 31, eI aC 16 d.cve), (a 32, .inr (2, [.ref (a 33), .ref (a 34), .ref (a 35), .int (iI d.ec)])), (a 33, eI aC 100 d.e1), (a 34, eI aC 100 d.e2), (a 35, .inr (0, [.ref (a 36), .ref (a 37)])), (a 36, eJ aC 100 d.em), (a 37, eI aC 100 d.ee), (a 38, .inr (2, [.ref (a 39), .ref (a 40), .ref (a 41), .int (iI d.pc)])), (a 39, eI aC 60 d.p1), (a 40, eI aC 60 d.p2), (a 41, .inr (0, [.ref (a 42), .ref (a 43)])), (a 42, eJ aC 60 d.pm), (a 43, eI aC 60 d.pe), (b 16, eI aC 440 f), (b 18, eI aC 1200 f1), (b 19, eI aC 1200 f2), (b 20, eI aC 1200 f3), (b 21, eI aC 1200 f4), (b 22, eI aC 1200 f5), (b 0, .inr (6, [.int (iI 1), .int (iI M.rw), .int (iI M.cn), .int (iI M.en), .int (iI M.pr), .double (dM M.ko (-3)), .ref (b 1), .ref (b 2), .ref (b 3), .ref (b 4), .ref (b 5), .ref (b 6), .ref (b 7), .ref (b 8), .ref (b 9), .ref (b 10), .ref (b 11), .ref (b 12), .ref (b 13), .ref (b 14), .ref (b 15), .int (iI p2), .ref (b 16), .ref (b 17), .ref (b 18), .ref (b 19), .ref (b 20), .ref (b 21), .ref (b 22)])), (b 17, eI aC 440 z), (b 1, eD aC 192 (dA M.ka c3)), (b 2, eD aC 16 (dA M.kc c3)), (b 3, eD aC 256 (dA M.kq c3)), (b 4, eD aC 16 (dA M.kl c3)), (b 5, eD aC 16 (dA M.kh c3)), (b 6, eD aC 12 (dA M.krl c3)), (b 7, eD aC 12 (dA M.krh c3)), (b 8, eD aC 16 (dA M.kx M.xb)), (b 9, eD aC 12 (dA M.ky M.yb)), (b 10, eZ aC 192 M.ai), (b 11, eZ aC 256 M.qi), (b 12, eZ aC 16 M.li), (b 13, eZ aC 16 M.hi), (b 14, eZ aC 12 M.rli), (b 15, eZ aC 12 M.rhi)] := e9
      subst e9
      change W p l e room_1 s m #[Value.ref sb] below meth c H locs (n1 + 1) (n2 + 6) Q (F0 m 209 ls [.int (iI 0)])
      refine lv_istore (lv' := [(7, .int (iI 0)), (6, .int (iI 1)), (5, .int (iI i)), (4, .ref od), (3, .ref ou), (2, .ref (b 0)), (1, .ref (a 0)), (0, .ref sb)]) hx hb d_La_law_209 hl (by decide) rfl (fun ls hl => ?_)
      refine lv_aload_n hx hb d_La_law_211 rfl (lv_at hl 5 rfl) ?_
      refine y_callV1 (V := .int (iI 1)) S (c_Mo_thrown l D aC b M 1 p2) t_La_63 (rm_9 (by decide) (by decide)) hK hN hP [58] rfl 0 6 rfl rfl rfl hl.1 rfl (Nat.le_of_ble_eq_true rfl) d_La_law_212 ⟨by show n1 + 1 ≤ 601024; omega, by show n2 + 6 ≤ 7293034; omega⟩ ?_
      refine lv_iload hx hb d_La_law_215 (lv_at hl 1 rfl) ?_
      refine x_icmp_eq (tgt := 222) hx hb d_La_law_217 (by decide) (by omega) (by omega) (fun c_217 => ?_) (fun c_217 => (by exfalso; omega))
      refine lv_iload hx hb d_La_law_222 (lv_at hl 1 rfl) ?_
      refine x_if_ne (tgt := 239) hx hb d_La_law_224 (by decide) (by decide) (fun c_224 => ?_) (fun c_224 => (by exfalso; omega))
      refine lv_goto (tgt := 841) hx hb d_La_law_239 (by decide) ?_
      refine W.widen (k := n1 + 2) (n := n2 + 12) (by omega) (by omega) ?_
      exact kk d M pd px pn fd mt ee gd mu eu 1 p2 f f1 f2 f3 f4 f5 z o1 o2 _ _ _ (hd) (hM) (hR) hP hD hS (lv_sub hl [2, 3, 4, 5, 6, 7] rfl)
    · exfalso; omega
    · exfalso; omega
  · have e9 : ws1 = [(ou, eJ aC 1 o1), (od, eD aC 1 o2), (a 44, .inr (3, [.ref (a 45), .int (iI px), .int (iI pn)])), (a 45, eJ aC 6 pd), (a 46, .inr (4, [.ref (a 47), .long (lI mt), .int (iI ee)])), (a 47, eJ aC 112 fd), (a 48, .inr (4, [.ref (a 49), .long (lI mu), .int (iI eu)])), (a 49, eJ aC 112 gd), (a 0, .inr (5, [.ref (a 1), .ref (a 4), .ref (a 7), .ref (a 10), .ref (a 21), .ref (a 32), .ref (a 38), .ref (a 44), .ref (a 46), .ref (a 48)])), (a 1, .inr (0, [.ref (a 2), .ref (a 3)])), (a 2, eJ aC 1 d.om), (a 3, eI aC 1 d.oe), (a 4, .inr (0, [.ref (a 5), .ref (a 6)])), (a 5, eJ aC 1 d.nm), (a 6, eI aC 1 d.ne), (a 7, .inr (0, [.ref (a 8), .ref (a 9)])), (a 8, eJ aC 16 d.cm), (a 9, eI aC 16 d.ce), (a 10, .inr (1, [.ref (a 11), .ref (a 12), .ref (a 15), .ref (a 18), .int (iI d.rc)])), (a 11, eI aC 12 d.rl), (a 12, .inr (0, [.ref (a 13), .ref (a 14)])), (a 13, eJ aC 12 d.rlm), (a 14, eI aC 12 d.rle), (a 15, .inr (0, [.ref (a 16), .ref (a 17)])), (a 16, eJ aC 12 d.rhm), (a 17, eI aC 12 d.rhe), (a 18, .inr (0, [.ref (a 19), .ref (a 20)])), (a 19, eJ aC 12 d.rvm), (a 20, eI aC 12 d.rve), (a 21, .inr (1, [.ref (a 22), .ref (a 23), .ref (a 26), .ref (a 29), .int (iI d.cc)])), (a 22, eI aC 16 d.cl), (a 23, .inr (0, [.ref (a 24), .ref (a 25)])), (a 24, eJ aC 16 d.clm), (a 25, eI aC 16 d.cle), (a 26, .inr (0, [.ref (a 27), .ref (a 28)])), (a 27, eJ aC 16 d.chm), (a 28, eI aC 16 d.che), (a 29, .inr (0, [.ref (a 30), .ref (a 31)])), (a 30, eJ aC 16 d.cvm), (a 31, eI aC 16 d.cve), (a 32, .inr (2, [.ref (a 33), .ref (a 34), .ref (a 35), .int (iI d.ec)])), (a 33, eI aC 100 d.e1), (a 34, eI aC 100 d.e2), (a 35, .inr (0, [.ref (a 36), .ref (a 37)])), (a 36, eJ aC 100 d.em), (a 37, eI aC 100 d.ee), (a 38, .inr (2, [.ref (a 39), .ref (a 40), .ref (a 41), .int (iI d.pc)])), (a 39, eI aC 60 d.p1), (a 40, eI aC 60 d.p2), (a 41, .inr (0, [.ref (a 42), .ref (a 43)])), (a 42, eJ aC 60 d.pm), (a 43, eI aC 60 d.pe), (b 16, eI aC 440 f), (b 18, eI aC 1200 f1), (b 19, eI aC 1200 f2), (b 20, eI aC 1200 f3), (b 21, eI aC 1200 f4), (b 22, eI aC 1200 f5), (b 0, .inr (6, [.int (iI er), .int (iI M.rw), .int (iI M.cn), .int (iI M.en), .int (iI M.pr), .double (dM M.ko (-3)), .ref (b 1), .ref (b 2), .ref (b 3), .ref (b 4), .ref (b 5), .ref (b 6), .ref (b 7), .ref (b 8), .ref (b 9), .ref (b 10), .ref (b 11), .ref (b 12), .ref (b 13), .ref (b 14), .ref (b 15), .int (iI p2), .ref (b 16), .ref (b 17), .ref (b 18), .ref (b 19), .ref (b 20), .ref (b 21), .ref (b 22)])), (b 17, eI aC 440 z), (b 1, eD aC 192 (dA M.ka c3)), (b 2, eD aC 16 (dA M.kc c3)), (b 3, eD aC 256 (dA M.kq c3)), (b 4, eD aC 16 (dA M.kl c3)), (b 5, eD aC 16 (dA M.kh c3)), (b 6, eD aC 12 (dA M.krl c3)), (b 7, eD aC 12 (dA M.krh c3)), (b 8, eD aC 16 (dA M.kx M.xb)), (b 9, eD aC 12 (dA M.ky M.yb)), (b 10, eZ aC 192 M.ai), (b 11, eZ aC 256 M.qi), (b 12, eZ aC 16 M.li), (b 13, eZ aC 16 M.hi), (b 14, eZ aC 12 M.rli), (b 15, eZ aC 12 M.rhi)] := e9
    subst e9
    change W p l e room_1 s m #[Value.ref sb] below meth c H locs (n1 + 1) (n2 + 6) Q (F0 m 175 ls [.int (iI 2)])
    refine lv_istore (lv' := [(6, .int (iI 2)), (5, .int (iI i)), (4, .ref od), (3, .ref ou), (2, .ref (b 0)), (1, .ref (a 0)), (0, .ref sb)]) hx hb d_La_law_175 hl (by decide) rfl (fun ls hl => ?_)
    refine lv_aload_n hx hb d_La_law_177 rfl (lv_at hl 4 rfl) ?_
    refine lv_aload_n hx hb d_La_law_178 rfl (lv_at hl 6 rfl) ?_
    refine lv_iload hx hb d_La_law_179 (lv_at hl 1 rfl) ?_
    refine lv_iconst (v := iI 1) hx hb d_La_law_181 rfl ?_
    refine x_iadd hx hb d_La_law_182 ?_
    refine x_sld hx hb hXs hbl hbA hS (by omega) (by omega) d_La_law_183 ?_
    have hsc183 := sc_r xs (i + 1)
    refine lv_aload_n hx hb d_La_law_184 rfl (lv_at hl 6 rfl) ?_
    refine lv_iload hx hb d_La_law_185 (lv_at hl 1 rfl) ?_
    refine lv_iconst (v := iI 2) hx hb d_La_law_187 rfl ?_
    refine x_iadd hx hb d_La_law_188 ?_
    refine x_sld hx hb hXs hbl hbA hS (by omega) (by omega) d_La_law_189 ?_
    have hsc189 := sc_r xs (i + 2)
    refine x_i2d hx hb d_La_law_190 (by omega) ?_
    refine x_ldc2d hx hb 1 (-3) (by decide +kernel) hown (hts _ wk_La_55) d_La_law_191 ?_
    refine x_dmul1 hx hb d_La_law_194 (by unfold dOk; omega) (by unfold dOk; omega) (by unfold dOk; omega) ?_
    refine x_topd _ _ (sc xs (i + 2)) (-3) (congrArg (dM (sc xs (i + 2))) (show (0 : Int) + (-3) = -3 from rfl)) ?_
    refine lv_aload_n hx hb d_La_law_195 rfl (lv_at hl 6 rfl) ?_
    refine lv_iload hx hb d_La_law_196 (lv_at hl 1 rfl) ?_
    refine lv_iconst (v := iI 3) hx hb d_La_law_198 rfl ?_
    refine x_iadd hx hb d_La_law_199 ?_
    refine x_sld hx hb hXs hbl hbA hS (by omega) (by omega) d_La_law_200 ?_
    have hsc200 := sc_r xs (i + 3)
    refine x_i2d hx hb d_La_law_201 (by omega) ?_
    refine x_ldc2d hx hb 1 (-3) (by decide +kernel) hown (hts _ wk_La_55) d_La_law_202 ?_
    refine x_dmul1 hx hb d_La_law_205 (by unfold dOk; omega) (by unfold dOk; omega) (by unfold dOk; omega) ?_
    refine x_topd _ _ (sc xs (i + 3)) (-3) (congrArg (dM (sc xs (i + 3))) (show (0 : Int) + (-3) = -3 from rfl)) ?_
    refine x_callVG S (c_Mo_row l D aC b M hM er p2 (sc xs (i + 1)) (sc xs (i + 2)) (sc xs (i + 3)) (by omega) (by omega) (by omega)) t_La_70 ⟨rfl, rfl, by decide, by decide⟩ hK hN hP hD hS [58, 65, 66, 73, 74] [] rfl (by decide +kernel) (fun v9 w9 hw => by rcases hw with ⟨h1, rfl, rfl⟩ | ⟨h1, h2, rfl, rfl⟩ | ⟨h1, h2, rfl, rfl⟩ <;> exact ⟨rfl, Nat.le_of_ble_eq_true rfl⟩) 0 6 rfl rfl rfl hl.1 rfl (Nat.le_of_ble_eq_true rfl) d_La_law_206 ⟨by show n1 + 1 ≤ 601024; omega, by show n2 + 6 ≤ 7293034; omega⟩ (fun v w1 ws1 H locs e9 hw hP hD hS => ?_)
    rcases hw with ⟨h1, rfl, rfl⟩ | ⟨h1, h2, rfl, rfl⟩ | ⟨h1, h2, rfl, rfl⟩
    · exfalso; omega
    · have e9 : ws1 = [(ou, eJ aC 1 o1), (od, eD aC 1 o2), (a 44, .inr (3, [.ref (a 45), .int (iI px), .int (iI pn)])), (a 45, eJ aC 6 pd), (a 46, .inr (4, [.ref (a 47), .long (lI mt), .int (iI ee)])), (a 47, eJ aC 112 fd), (a 48, .inr (4, [.ref (a 49), .long (lI mu), .int (iI eu)])), (a 49, eJ aC 112 gd), (a 0, .inr (5, [.ref (a 1), .ref (a 4), .ref (a 7), .ref (a 10), .ref (a 21), .ref (a 32), .ref (a 38), .ref (a 44), .ref (a 46), .ref (a 48)])), (a 1, .inr (0, [.ref (a 2), .ref (a 3)])), (a 2, eJ aC 1 d.om), (a 3, eI aC 1 d.oe), (a 4, .inr (0, [.ref (a 5), .ref (a 6)])), (a 5, eJ aC 1 d.nm), (a 6, eI aC 1 d.ne), (a 7, .inr (0, [.ref (a 8), .ref (a 9)])), (a 8, eJ aC 16 d.cm), (a 9, eI aC 16 d.ce), (a 10, .inr (1, [.ref (a 11), .ref (a 12), .ref (a 15), .ref (a 18), .int (iI d.rc)])), (a 11, eI aC 12 d.rl), (a 12, .inr (0, [.ref (a 13), .ref (a 14)])), (a 13, eJ aC 12 d.rlm), (a 14, eI aC 12 d.rle), (a 15, .inr (0, [.ref (a 16), .ref (a 17)])), (a 16, eJ aC 12 d.rhm), (a 17, eI aC 12 d.rhe), (a 18, .inr (0, [.ref (a 19), .ref (a 20)])), (a 19, eJ aC 12 d.rvm), (a 20, eI aC 12 d.rve), (a 21, .inr (1, [.ref (a 22), .ref (a 23), .ref (a 26), .ref (a 29), .int (iI d.cc)])), (a 22, eI aC 16 d.cl), (a 23, .inr (0, [.ref (a 24), .ref (a 25)])), (a 24, eJ aC 16 d.clm), (a 25, eI aC 16 d.cle), (a 26, .inr (0, [.ref (a 27), .ref (a 28)])), (a 27, eJ aC 16 d.chm), (a 28, eI aC 16 d.che), (a 29, .inr (0, [.ref (a 30), .ref (a 31)])), (a 30, eJ aC 16 d.cvm), (a 31, eI aC 16 d.cve), (a 32, .inr (2, [.ref (a 33), .ref (a 34), .ref (a 35), .int (iI d.ec)])), (a 33, eI aC 100 d.e1), (a 34, eI aC 100 d.e2), (a 35, .inr (0, [.ref (a 36), .ref (a 37)])), (a 36, eJ aC 100 d.em), (a 37, eI aC 100 d.ee), (a 38, .inr (2, [.ref (a 39), .ref (a 40), .ref (a 41), .int (iI d.pc)])), (a 39, eI aC 60 d.p1), (a 40, eI aC 60 d.p2), (a 41, .inr (0, [.ref (a 42), .ref (a 43)])), (a 42, eJ aC 60 d.pm), (a 43, eI aC 60 d.pe), (b 16, eI aC 440 f), (b 18, eI aC 1200 f1), (b 19, eI aC 1200 f2), (b 20, eI aC 1200 f3), (b 21, eI aC 1200 f4), (b 22, eI aC 1200 f5), (b 0, .inr (6, [.int (iI 2), .int (iI M.rw), .int (iI M.cn), .int (iI M.en), .int (iI M.pr), .double (dM M.ko (-3)), .ref (b 1), .ref (b 2), .ref (b 3), .ref (b 4), .ref (b 5), .ref (b 6), .ref (b 7), .ref (b 8), .ref (b 9), .ref (b 10), .ref (b 11), .ref (b 12), .ref (b 13), .ref (b 14), .ref (b 15), .int (iI p2), .ref (b 16), .ref (b 17), .ref (b 18), .ref (b 19), .ref (b 20), .ref (b 21), .ref (b 22)])), (b 17, eI aC 440 z), (b 1, eD aC 192 (dA M.ka c3)), (b 2, eD aC 16 (dA M.kc c3)), (b 3, eD aC 256 (dA M.kq c3)), (b 4, eD aC 16 (dA M.kl c3)), (b 5, eD aC 16 (dA M.kh c3)), (b 6, eD aC 12 (dA M.krl c3)), (b 7, eD aC 12 (dA M.krh c3)), (b 8, eD aC 16 (dA M.kx M.xb)), (b 9, eD aC 12 (dA M.ky M.yb)), (b 10, eZ aC 192 M.ai), (b 11, eZ aC 256 M.qi), (b 12, eZ aC 16 M.li), (b 13, eZ aC 16 M.hi), (b 14, eZ aC 12 M.rli), (b 15, eZ aC 12 M.rhi)] := e9
      subst e9
      change W p l e room_1 s m #[Value.ref sb] below meth c H locs (n1 + 1) (n2 + 6) Q (F0 m 209 ls [.int (iI 0)])
      refine lv_istore (lv' := [(7, .int (iI 0)), (6, .int (iI 2)), (5, .int (iI i)), (4, .ref od), (3, .ref ou), (2, .ref (b 0)), (1, .ref (a 0)), (0, .ref sb)]) hx hb d_La_law_209 hl (by decide) rfl (fun ls hl => ?_)
      refine lv_aload_n hx hb d_La_law_211 rfl (lv_at hl 5 rfl) ?_
      refine y_callV1 (V := .int (iI 2)) S (c_Mo_thrown l D aC b M 2 p2) t_La_63 (rm_9 (by decide) (by decide)) hK hN hP [58] rfl 0 6 rfl rfl rfl hl.1 rfl (Nat.le_of_ble_eq_true rfl) d_La_law_212 ⟨by show n1 + 1 ≤ 601024; omega, by show n2 + 6 ≤ 7293034; omega⟩ ?_
      refine lv_iload hx hb d_La_law_215 (lv_at hl 1 rfl) ?_
      refine x_icmp_eq (tgt := 222) hx hb d_La_law_217 (by decide) (by omega) (by omega) (fun c_217 => ?_) (fun c_217 => (by exfalso; omega))
      refine lv_iload hx hb d_La_law_222 (lv_at hl 1 rfl) ?_
      refine x_if_ne (tgt := 239) hx hb d_La_law_224 (by decide) (by decide) (fun c_224 => ?_) (fun c_224 => (by exfalso; omega))
      refine lv_goto (tgt := 841) hx hb d_La_law_239 (by decide) ?_
      refine W.widen (k := n1 + 2) (n := n2 + 12) (by omega) (by omega) ?_
      exact kk d M pd px pn fd mt ee gd mu eu 2 p2 f f1 f2 f3 f4 f5 z o1 o2 _ _ _ (hd) (hM) (hR) hP hD hS (lv_sub hl [2, 3, 4, 5, 6, 7] rfl)
    · exfalso; omega
set_option maxHeartbeats 8000000 in
set_option maxRecDepth 100000 in
theorem law_2 {p : Program} {l : Launch} {e : Env} {s : State} {m : MethodId} {below : List Frame} {meth : Method} {c : Code} {D : va_G} {aC : Nat → ClassId} {sa : Nat → Nat} {a b : Nat → Nat} {ou od sb L : Nat} {xs : Nat → Int32} {Q : State → Prop} (C0 : LC p l s m meth c D aC sa sb L xs) {i : Int} {n1 n2 : Nat} (hi : 0 ≤ i ∧ i + 5 ≤ (L : Int)) (hn1 : n1 + 2 ≤ 601024) (hn2 : n2 + 12 ≤ 7293034) (kk : LK p l e s m below meth c D aC a b ou od sb Q i 841 (n1 + 2) (n2 + 12)) : LK p l e s m below meth c D aC a b ou od sb Q i 242 n1 n2 := by
  intro d M pd px pn fd mt ee gd mu eu er p2 f f1 f2 f3 f4 f5 z o1 o2 H locs ls hd hM hR hP hD hS hl
  obtain ⟨S, hXs, hbl, hL9, hst, hK, hN, hX, hNC⟩ := C0
  obtain ⟨hx, hb, hml, hown, hts⟩ := id S
  have hbA : ¬ (fun q : Nat => s.heap.size ≤ q) sb := Nat.not_le.mpr hbl
  have hn := hR.n
  have hrw := hM.rw
  have hcn := hM.cn
  have hen := hM.en
  have hpr := hM.pr
  refine lv_aload_n hx hb d_La_law_242 rfl (lv_at hl 4 rfl) ?_
  refine lv_aload_n hx hb d_La_law_243 rfl (lv_at hl 5 rfl) ?_
  refine lv_iload hx hb d_La_law_244 (lv_at hl 0 rfl) ?_
  refine lv_iconst (v := iI 1) hx hb d_La_law_246 rfl ?_
  refine x_iadd hx hb d_La_law_247 ?_
  refine x_sld hx hb hXs hbl hbA hS (by omega) (by omega) d_La_law_248 ?_
  have hsc248 := sc_r xs (i + 1)
  refine x_i2d hx hb d_La_law_249 (by omega) ?_
  refine x_ldc2d hx hb 1 (-3) (by decide +kernel) hown (hts _ wk_La_55) d_La_law_250 ?_
  refine x_dmul1 hx hb d_La_law_253 (by unfold dOk; omega) (by unfold dOk; omega) (by unfold dOk; omega) ?_
  refine x_topd _ _ (sc xs (i + 1)) (-3) (congrArg (dM (sc xs (i + 1))) (show (0 : Int) + (-3) = -3 from rfl)) ?_
  refine lv_aload_n hx hb d_La_law_254 rfl (lv_at hl 5 rfl) ?_
  refine lv_iload hx hb d_La_law_255 (lv_at hl 0 rfl) ?_
  refine lv_iconst (v := iI 2) hx hb d_La_law_257 rfl ?_
  refine x_iadd hx hb d_La_law_258 ?_
  refine x_sld hx hb hXs hbl hbA hS (by omega) (by omega) d_La_law_259 ?_
  have hsc259 := sc_r xs (i + 2)
  refine lv_aload_n hx hb d_La_law_260 rfl (lv_at hl 5 rfl) ?_
  refine lv_iload hx hb d_La_law_261 (lv_at hl 0 rfl) ?_
  refine lv_iconst (v := iI 3) hx hb d_La_law_263 rfl ?_
  refine x_iadd hx hb d_La_law_264 ?_
  refine x_sld hx hb hXs hbl hbA hS (by omega) (by omega) d_La_law_265 ?_
  have hsc265 := sc_r xs (i + 3)
  refine x_i2d hx hb d_La_law_266 (by omega) ?_
  refine x_ldc2d hx hb 1 (-3) (by decide +kernel) hown (hts _ wk_La_55) d_La_law_267 ?_
  refine x_dmul1 hx hb d_La_law_270 (by unfold dOk; omega) (by unfold dOk; omega) (by unfold dOk; omega) ?_
  refine x_topd _ _ (sc xs (i + 3)) (-3) (congrArg (dM (sc xs (i + 3))) (show (0 : Int) + (-3) = -3 from rfl)) ?_
  refine lv_aload_n hx hb d_La_law_271 rfl (lv_at hl 5 rfl) ?_
  refine lv_iload hx hb d_La_law_272 (lv_at hl 0 rfl) ?_
  refine lv_iconst (v := iI 4) hx hb d_La_law_274 rfl ?_
  refine x_iadd hx hb d_La_law_275 ?_
  refine x_sld hx hb hXs hbl hbA hS (by omega) (by omega) d_La_law_276 ?_
  have hsc276 := sc_r xs (i + 4)
  refine x_i2d hx hb d_La_law_277 (by omega) ?_
  refine x_ldc2d hx hb 1 (-3) (by decide +kernel) hown (hts _ wk_La_55) d_La_law_278 ?_
  refine x_dmul1 hx hb d_La_law_281 (by unfold dOk; omega) (by unfold dOk; omega) (by unfold dOk; omega) ?_
  refine x_topd _ _ (sc xs (i + 4)) (-3) (congrArg (dM (sc xs (i + 4))) (show (0 : Int) + (-3) = -3 from rfl)) ?_
  refine lv_aload_n hx hb d_La_law_282 rfl (lv_at hl 2 rfl) ?_
  refine x_callW S (c_La_column l D aC sa hst a d hd (sc xs (i + 1)) (by omega) (sc xs (i + 2)) (by omega) (sc xs (i + 3)) (by omega) (sc xs (i + 4)) (by omega) ou o1) tl_71 ⟨rfl, rfl, by decide, by decide⟩ hK hN hX hNC hP hD hS [0, 8, 15, 16, 17, 29, 30, 31, 32, 33, 34, 35, 36] [] rfl (by decide +kernel) (fun v9 w9 hw => by rcases hw with ⟨rfl, hok, rfl⟩ | ⟨rfl, hok, rfl⟩ | ⟨rfl, hok, rfl⟩ <;> exact ⟨rfl, Nat.le_of_ble_eq_true rfl⟩) rfl hl.1 rfl (Nat.le_of_ble_eq_true rfl) d_La_law_283 ⟨by show n1 + 1 ≤ 601024; omega, by show n2 + 6 ≤ 7293034; omega⟩ (fun v w1 ws1 H locs e9 hw hP hD hS => ?_)
  rcases hw with ⟨rfl, hok, rfl⟩ | ⟨rfl, hok, rfl⟩ | ⟨rfl, hok, rfl⟩
  · have e9 : ws1 = [(ou, eJ aC 1 (updI o1 0 d.cc)), (od, eD aC 1 o2), (a 44, .inr (3, [.ref (a 45), .int (iI px), .int (iI pn)])), (a 45, eJ aC 6 pd), (a 46, .inr (4, [.ref (a 47), .long (lI mt), .int (iI ee)])), (a 47, eJ aC 112 fd), (a 48, .inr (4, [.ref (a 49), .long (lI mu), .int (iI eu)])), (a 49, eJ aC 112 gd), (a 0, .inr (5, [.ref (a 1), .ref (a 4), .ref (a 7), .ref (a 10), .ref (a 21), .ref (a 32), .ref (a 38), .ref (a 44), .ref (a 46), .ref (a 48)])), (a 1, .inr (0, [.ref (a 2), .ref (a 3)])), (a 2, eJ aC 1 d.om), (a 3, eI aC 1 d.oe), (a 4, .inr (0, [.ref (a 5), .ref (a 6)])), (a 5, eJ aC 1 d.nm), (a 6, eI aC 1 d.ne), (a 7, .inr (0, [.ref (a 8), .ref (a 9)])), (a 8, eJ aC 16 (updI d.cm d.cc ((sc xs (i + 1)) * 2 ^ nt (sc xs (i + 1))))), (a 9, eI aC 16 (updI d.ce d.cc (nx (sc xs (i + 1)) (-3) 0))), (a 10, .inr (1, [.ref (a 11), .ref (a 12), .ref (a 15), .ref (a 18), .int (iI d.rc)])), (a 11, eI aC 12 d.rl), (a 12, .inr (0, [.ref (a 13), .ref (a 14)])), (a 13, eJ aC 12 d.rlm), (a 14, eI aC 12 d.rle), (a 15, .inr (0, [.ref (a 16), .ref (a 17)])), (a 16, eJ aC 12 d.rhm), (a 17, eI aC 12 d.rhe), (a 18, .inr (0, [.ref (a 19), .ref (a 20)])), (a 19, eJ aC 12 d.rvm), (a 20, eI aC 12 d.rve), (a 21, .inr (1, [.ref (a 22), .ref (a 23), .ref (a 26), .ref (a 29), .int (iI (d.cc + 1))])), (a 22, eI aC 16 (updI d.cl d.cc (sc xs (i + 2)))), (a 23, .inr (0, [.ref (a 24), .ref (a 25)])), (a 24, eJ aC 16 (cu ((sc xs (i + 2)) % 2) d.clm d.cc ((sc xs (i + 3)) * 2 ^ nt (sc xs (i + 3))))), (a 25, eI aC 16 (cu ((sc xs (i + 2)) % 2) d.cle d.cc (nx (sc xs (i + 3)) (-3) 0))), (a 26, .inr (0, [.ref (a 27), .ref (a 28)])), (a 27, eJ aC 16 (cu ((sc xs (i + 2)) / 2 % 2 * 2) d.chm d.cc ((sc xs (i + 4)) * 2 ^ nt (sc xs (i + 4))))), (a 28, eI aC 16 (cu ((sc xs (i + 2)) / 2 % 2 * 2) d.che d.cc (nx (sc xs (i + 4)) (-3) 0))), (a 29, .inr (0, [.ref (a 30), .ref (a 31)])), (a 30, eJ aC 16 d.cvm), (a 31, eI aC 16 d.cve), (a 32, .inr (2, [.ref (a 33), .ref (a 34), .ref (a 35), .int (iI d.ec)])), (a 33, eI aC 100 d.e1), (a 34, eI aC 100 d.e2), (a 35, .inr (0, [.ref (a 36), .ref (a 37)])), (a 36, eJ aC 100 d.em), (a 37, eI aC 100 d.ee), (a 38, .inr (2, [.ref (a 39), .ref (a 40), .ref (a 41), .int (iI d.pc)])), (a 39, eI aC 60 d.p1), (a 40, eI aC 60 d.p2), (a 41, .inr (0, [.ref (a 42), .ref (a 43)])), (a 42, eJ aC 60 d.pm), (a 43, eI aC 60 d.pe), (b 16, eI aC 440 f), (b 18, eI aC 1200 f1), (b 19, eI aC 1200 f2), (b 20, eI aC 1200 f3), (b 21, eI aC 1200 f4), (b 22, eI aC 1200 f5), (b 0, .inr (6, [.int (iI er), .int (iI M.rw), .int (iI M.cn), .int (iI M.en), .int (iI M.pr), .double (dM M.ko (-3)), .ref (b 1), .ref (b 2), .ref (b 3), .ref (b 4), .ref (b 5), .ref (b 6), .ref (b 7), .ref (b 8), .ref (b 9), .ref (b 10), .ref (b 11), .ref (b 12), .ref (b 13), .ref (b 14), .ref (b 15), .int (iI p2), .ref (b 16), .ref (b 17), .ref (b 18), .ref (b 19), .ref (b 20), .ref (b 21), .ref (b 22)])), (b 17, eI aC 440 z), (b 1, eD aC 192 (dA M.ka c3)), (b 2, eD aC 16 (dA M.kc c3)), (b 3, eD aC 256 (dA M.kq c3)), (b 4, eD aC 16 (dA M.kl c3)), (b 5, eD aC 16 (dA M.kh c3)), (b 6, eD aC 12 (dA M.krl c3)), (b 7, eD aC 12 (dA M.krh c3)), (b 8, eD aC 16 (dA M.kx M.xb)), (b 9, eD aC 12 (dA M.ky M.yb)), (b 10, eZ aC 192 M.ai), (b 11, eZ aC 256 M.qi), (b 12, eZ aC 16 M.li), (b 13, eZ aC 16 M.hi), (b 14, eZ aC 12 M.rli), (b 15, eZ aC 12 M.rhi)] := e9
    subst e9
    change W p l e room_1 s m #[Value.ref sb] below meth c H locs (n1 + 1) (n2 + 6) Q (F0 m 286 ls [.int (iI 0)])
    refine lv_istore (lv' := [(6, .int (iI 0)), (5, .int (iI i)), (4, .ref od), (3, .ref ou), (2, .ref (b 0)), (1, .ref (a 0)), (0, .ref sb)]) hx hb d_La_law_286 hl (by decide) rfl (fun ls hl => ?_)
    refine lv_aload_n hx hb d_La_law_288 rfl (lv_at hl 4 rfl) ?_
    refine lv_aload_n hx hb d_La_law_289 rfl (lv_at hl 6 rfl) ?_
    refine lv_iload hx hb d_La_law_290 (lv_at hl 1 rfl) ?_
    refine lv_iconst (v := iI 1) hx hb d_La_law_292 rfl ?_
    refine x_iadd hx hb d_La_law_293 ?_
    refine x_sld hx hb hXs hbl hbA hS (by omega) (by omega) d_La_law_294 ?_
    have hsc294 := sc_r xs (i + 1)
    refine x_i2d hx hb d_La_law_295 (by omega) ?_
    refine x_ldc2d hx hb 1 (-3) (by decide +kernel) hown (hts _ wk_La_55) d_La_law_296 ?_
    refine x_dmul1 hx hb d_La_law_299 (by unfold dOk; omega) (by unfold dOk; omega) (by unfold dOk; omega) ?_
    refine x_topd _ _ (sc xs (i + 1)) (-3) (congrArg (dM (sc xs (i + 1))) (show (0 : Int) + (-3) = -3 from rfl)) ?_
    refine lv_aload_n hx hb d_La_law_300 rfl (lv_at hl 6 rfl) ?_
    refine lv_iload hx hb d_La_law_301 (lv_at hl 1 rfl) ?_
    refine lv_iconst (v := iI 2) hx hb d_La_law_303 rfl ?_
    refine x_iadd hx hb d_La_law_304 ?_
    refine x_sld hx hb hXs hbl hbA hS (by omega) (by omega) d_La_law_305 ?_
    have hsc305 := sc_r xs (i + 2)
    refine lv_aload_n hx hb d_La_law_306 rfl (lv_at hl 6 rfl) ?_
    refine lv_iload hx hb d_La_law_307 (lv_at hl 1 rfl) ?_
    refine lv_iconst (v := iI 3) hx hb d_La_law_309 rfl ?_
    refine x_iadd hx hb d_La_law_310 ?_
    refine x_sld hx hb hXs hbl hbA hS (by omega) (by omega) d_La_law_311 ?_
    have hsc311 := sc_r xs (i + 3)
    refine x_i2d hx hb d_La_law_312 (by omega) ?_
    refine x_ldc2d hx hb 1 (-3) (by decide +kernel) hown (hts _ wk_La_55) d_La_law_313 ?_
    refine x_dmul1 hx hb d_La_law_316 (by unfold dOk; omega) (by unfold dOk; omega) (by unfold dOk; omega) ?_
    refine x_topd _ _ (sc xs (i + 3)) (-3) (congrArg (dM (sc xs (i + 3))) (show (0 : Int) + (-3) = -3 from rfl)) ?_
    refine lv_aload_n hx hb d_La_law_317 rfl (lv_at hl 6 rfl) ?_
    refine lv_iload hx hb d_La_law_318 (lv_at hl 1 rfl) ?_
    refine lv_iconst (v := iI 4) hx hb d_La_law_320 rfl ?_
    refine x_iadd hx hb d_La_law_321 ?_
    refine x_sld hx hb hXs hbl hbA hS (by omega) (by omega) d_La_law_322 ?_
    have hsc322 := sc_r xs (i + 4)
    refine x_i2d hx hb d_La_law_323 (by omega) ?_
    refine x_ldc2d hx hb 1 (-3) (by decide +kernel) hown (hts _ wk_La_55) d_La_law_324 ?_
    refine x_dmul1 hx hb d_La_law_327 (by unfold dOk; omega) (by unfold dOk; omega) (by unfold dOk; omega) ?_
    refine x_topd _ _ (sc xs (i + 4)) (-3) (congrArg (dM (sc xs (i + 4))) (show (0 : Int) + (-3) = -3 from rfl)) ?_
    refine x_callVG S (c_Mo_column l D aC b M hM er p2 (sc xs (i + 2)) (sc xs (i + 3)) (sc xs (i + 4)) (by omega) (by omega) (by omega) (sc xs (i + 1)) (by omega)) t_La_74 ⟨rfl, rfl, by decide, by decide⟩ hK hN hP hD hS [58, 61, 63, 64, 71, 72] [] rfl (by decide +kernel) (fun v9 w9 hw => by rcases hw with ⟨h1, rfl, rfl⟩ | ⟨h1, h2, rfl, rfl⟩ | ⟨h1, h2, rfl, rfl⟩ <;> exact ⟨rfl, Nat.le_of_ble_eq_true rfl⟩) 0 6 rfl rfl rfl hl.1 rfl (Nat.le_of_ble_eq_true rfl) d_La_law_328 ⟨by show n1 + 1 ≤ 601024; omega, by show n2 + 6 ≤ 7293034; omega⟩ (fun v w1 ws1 H locs e9 hw hP hD hS => ?_)
    rcases hw with ⟨h1, rfl, rfl⟩ | ⟨h1, h2, rfl, rfl⟩ | ⟨h1, h2, rfl, rfl⟩
    · exfalso; omega
    · exfalso; omega
    · have e9 : ws1 = [(ou, eJ aC 1 (updI o1 0 d.cc)), (od, eD aC 1 o2), (a 44, .inr (3, [.ref (a 45), .int (iI px), .int (iI pn)])), (a 45, eJ aC 6 pd), (a 46, .inr (4, [.ref (a 47), .long (lI mt), .int (iI ee)])), (a 47, eJ aC 112 fd), (a 48, .inr (4, [.ref (a 49), .long (lI mu), .int (iI eu)])), (a 49, eJ aC 112 gd), (a 0, .inr (5, [.ref (a 1), .ref (a 4), .ref (a 7), .ref (a 10), .ref (a 21), .ref (a 32), .ref (a 38), .ref (a 44), .ref (a 46), .ref (a 48)])), (a 1, .inr (0, [.ref (a 2), .ref (a 3)])), (a 2, eJ aC 1 d.om), (a 3, eI aC 1 d.oe), (a 4, .inr (0, [.ref (a 5), .ref (a 6)])), (a 5, eJ aC 1 d.nm), (a 6, eI aC 1 d.ne), (a 7, .inr (0, [.ref (a 8), .ref (a 9)])), (a 8, eJ aC 16 (updI d.cm d.cc ((sc xs (i + 1)) * 2 ^ nt (sc xs (i + 1))))), (a 9, eI aC 16 (updI d.ce d.cc (nx (sc xs (i + 1)) (-3) 0))), (a 10, .inr (1, [.ref (a 11), .ref (a 12), .ref (a 15), .ref (a 18), .int (iI d.rc)])), (a 11, eI aC 12 d.rl), (a 12, .inr (0, [.ref (a 13), .ref (a 14)])), (a 13, eJ aC 12 d.rlm), (a 14, eI aC 12 d.rle), (a 15, .inr (0, [.ref (a 16), .ref (a 17)])), (a 16, eJ aC 12 d.rhm), (a 17, eI aC 12 d.rhe), (a 18, .inr (0, [.ref (a 19), .ref (a 20)])), (a 19, eJ aC 12 d.rvm), (a 20, eI aC 12 d.rve), (a 21, .inr (1, [.ref (a 22), .ref (a 23), .ref (a 26), .ref (a 29), .int (iI (d.cc + 1))])), (a 22, eI aC 16 (updI d.cl d.cc (sc xs (i + 2)))), (a 23, .inr (0, [.ref (a 24), .ref (a 25)])), (a 24, eJ aC 16 (cu ((sc xs (i + 2)) % 2) d.clm d.cc ((sc xs (i + 3)) * 2 ^ nt (sc xs (i + 3))))), (a 25, eI aC 16 (cu ((sc xs (i + 2)) % 2) d.cle d.cc (nx (sc xs (i + 3)) (-3) 0))), (a 26, .inr (0, [.ref (a 27), .ref (a 28)])), (a 27, eJ aC 16 (cu ((sc xs (i + 2)) / 2 % 2 * 2) d.chm d.cc ((sc xs (i + 4)) * 2 ^ nt (sc xs (i + 4))))), (a 28, eI aC 16 (cu ((sc xs (i + 2)) / 2 % 2 * 2) d.che d.cc (nx (sc xs (i + 4)) (-3) 0))), (a 29, .inr (0, [.ref (a 30), .ref (a 31)])), (a 30, eJ aC 16 d.cvm), (a 31, eI aC 16 d.cve), (a 32, .inr (2, [.ref (a 33), .ref (a 34), .ref (a 35), .int (iI d.ec)])), (a 33, eI aC 100 d.e1), (a 34, eI aC 100 d.e2), (a 35, .inr (0, [.ref (a 36), .ref (a 37)])), (a 36, eJ aC 100 d.em), (a 37, eI aC 100 d.ee), (a 38, .inr (2, [.ref (a 39), .ref (a 40), .ref (a 41), .int (iI d.pc)])), (a 39, eI aC 60 d.p1), (a 40, eI aC 60 d.p2), (a 41, .inr (0, [.ref (a 42), .ref (a 43)])), (a 42, eJ aC 60 d.pm), (a 43, eI aC 60 d.pe), (b 16, eI aC 440 f), (b 18, eI aC 1200 f1), (b 19, eI aC 1200 f2), (b 20, eI aC 1200 f3), (b 21, eI aC 1200 f4), (b 22, eI aC 1200 f5), (b 0, .inr (6, [.int (iI 0), .int (iI M.rw), .int (iI (M.cn + 1)), .int (iI M.en), .int (iI M.pr), .double (dM M.ko (-3)), .ref (b 1), .ref (b 2), .ref (b 3), .ref (b 4), .ref (b 5), .ref (b 6), .ref (b 7), .ref (b 8), .ref (b 9), .ref (b 10), .ref (b 11), .ref (b 12), .ref (b 13), .ref (b 14), .ref (b 15), .int (iI p2), .ref (b 16), .ref (b 17), .ref (b 18), .ref (b 19), .ref (b 20), .ref (b 21), .ref (b 22)])), (b 17, eI aC 440 z), (b 1, eD aC 192 (dA M.ka c3)), (b 2, eD aC 16 (dA (updI M.kc M.cn (sc xs (i + 1))) c3)), (b 3, eD aC 256 (dA M.kq c3)), (b 4, eD aC 16 (dA (updI M.kl M.cn (sc xs (i + 3))) c3)), (b 5, eD aC 16 (dA (updI M.kh M.cn (sc xs (i + 4))) c3)), (b 6, eD aC 12 (dA M.krl c3)), (b 7, eD aC 12 (dA M.krh c3)), (b 8, eD aC 16 (dA M.kx M.xb)), (b 9, eD aC 12 (dA M.ky M.yb)), (b 10, eZ aC 192 M.ai), (b 11, eZ aC 256 M.qi), (b 12, eZ aC 16 (updI M.li M.cn ((sc xs (i + 2)) % 2))), (b 13, eZ aC 16 (updI M.hi M.cn ((sc xs (i + 2)) / 2 % 2))), (b 14, eZ aC 12 M.rli), (b 15, eZ aC 12 M.rhi)] := e9
      subst e9
      change W p l e room_1 s m #[Value.ref sb] below meth c H locs (n1 + 1) (n2 + 6) Q (F0 m 331 ls [.int (iI M.cn)])
      refine lv_istore (lv' := [(7, .int (iI M.cn)), (6, .int (iI 0)), (5, .int (iI i)), (4, .ref od), (3, .ref ou), (2, .ref (b 0)), (1, .ref (a 0)), (0, .ref sb)]) hx hb d_La_law_331 hl (by decide) rfl (fun ls hl => ?_)
      refine lv_aload_n hx hb d_La_law_333 rfl (lv_at hl 5 rfl) ?_
      refine y_callV1 (V := .int (iI 0)) S (c_Mo_thrown l D aC b (mCol M (sc xs (i + 1)) (sc xs (i + 2)) (sc xs (i + 3)) (sc xs (i + 4))) 0 p2) t_La_63 (rm_9 (by decide) (by decide)) hK hN hP [58] rfl 0 6 rfl rfl rfl hl.1 rfl (Nat.le_of_ble_eq_true rfl) d_La_law_334 ⟨by show n1 + 1 ≤ 601024; omega, by show n2 + 6 ≤ 7293034; omega⟩ ?_
      refine lv_iload hx hb d_La_law_337 (lv_at hl 1 rfl) ?_
      refine x_icmp_eq (tgt := 344) hx hb d_La_law_339 (by decide) (by omega) (by omega) (fun c_339 => ?_) (fun c_339 => (by exfalso; omega))
      refine lv_iload hx hb d_La_law_344 (lv_at hl 1 rfl) ?_
      refine x_if_ne (tgt := 361) hx hb d_La_law_346 (by decide) (by decide) (fun c_346 => (by exfalso; omega)) (fun c_346 => ?_)
      refine lv_aload_n hx hb d_La_law_349 rfl (lv_at hl 4 rfl) ?_
      refine lv_iconst (v := iI 0) hx hb d_La_law_350 rfl ?_
      refine x_lald hx hb hK hP 0 rfl (by omega) (by decide) d_La_law_351 ?_
      refine x_topl ((updI o1 0 d.cc) 0) d.cc (updI_s _ _ _) ?_
      refine lv_iload hx hb d_La_law_352 (lv_at hl 0 rfl) ?_
      refine x_i2l hx hb d_La_law_354 (by omega) ?_
      refine x_lcmp_eq (tgt := 361) hx hb d_La_law_355 d_La_law_356 (by decide) (by omega) (by omega) (fun c_355 => ?_) (fun c_355 => (by exfalso; omega))
      refine lv_goto (tgt := 841) hx hb d_La_law_361 (by decide) ?_
      refine W.widen (k := n1 + 2) (n := n2 + 12) (by omega) (by omega) ?_
      exact kk (dCol d (sc xs (i + 1)) (sc xs (i + 2)) (sc xs (i + 3)) (sc xs (i + 4))) (mCol M (sc xs (i + 1)) (sc xs (i + 2)) (sc xs (i + 3)) (sc xs (i + 4))) pd px pn fd mt ee gd mu eu 0 p2 f f1 f2 f3 f4 f5 z (updI o1 0 d.cc) o2 _ _ _ (DI_Col hd hM hR (by omega) (by omega) (by omega) (by omega) (by omega)) (MI_Col hM (by omega) (by omega) (by omega) (by omega) (by omega)) (Rel_Col hd hM hR (by omega) (by omega) (by omega) (by omega) (by omega)) hP hD hS (lv_sub hl [2, 3, 4, 5, 6, 7] rfl)
  · have e9 : ws1 = [(ou, eJ aC 1 o1), (od, eD aC 1 o2), (a 44, .inr (3, [.ref (a 45), .int (iI px), .int (iI pn)])), (a 45, eJ aC 6 pd), (a 46, .inr (4, [.ref (a 47), .long (lI mt), .int (iI ee)])), (a 47, eJ aC 112 fd), (a 48, .inr (4, [.ref (a 49), .long (lI mu), .int (iI eu)])), (a 49, eJ aC 112 gd), (a 0, .inr (5, [.ref (a 1), .ref (a 4), .ref (a 7), .ref (a 10), .ref (a 21), .ref (a 32), .ref (a 38), .ref (a 44), .ref (a 46), .ref (a 48)])), (a 1, .inr (0, [.ref (a 2), .ref (a 3)])), (a 2, eJ aC 1 d.om), (a 3, eI aC 1 d.oe), (a 4, .inr (0, [.ref (a 5), .ref (a 6)])), (a 5, eJ aC 1 d.nm), (a 6, eI aC 1 d.ne), (a 7, .inr (0, [.ref (a 8), .ref (a 9)])), (a 8, eJ aC 16 d.cm), (a 9, eI aC 16 d.ce), (a 10, .inr (1, [.ref (a 11), .ref (a 12), .ref (a 15), .ref (a 18), .int (iI d.rc)])), (a 11, eI aC 12 d.rl), (a 12, .inr (0, [.ref (a 13), .ref (a 14)])), (a 13, eJ aC 12 d.rlm), (a 14, eI aC 12 d.rle), (a 15, .inr (0, [.ref (a 16), .ref (a 17)])), (a 16, eJ aC 12 d.rhm), (a 17, eI aC 12 d.rhe), (a 18, .inr (0, [.ref (a 19), .ref (a 20)])), (a 19, eJ aC 12 d.rvm), (a 20, eI aC 12 d.rve), (a 21, .inr (1, [.ref (a 22), .ref (a 23), .ref (a 26), .ref (a 29), .int (iI d.cc)])), (a 22, eI aC 16 d.cl), (a 23, .inr (0, [.ref (a 24), .ref (a 25)])), (a 24, eJ aC 16 d.clm), (a 25, eI aC 16 d.cle), (a 26, .inr (0, [.ref (a 27), .ref (a 28)])), (a 27, eJ aC 16 d.chm), (a 28, eI aC 16 d.che), (a 29, .inr (0, [.ref (a 30), .ref (a 31)])), (a 30, eJ aC 16 d.cvm), (a 31, eI aC 16 d.cve), (a 32, .inr (2, [.ref (a 33), .ref (a 34), .ref (a 35), .int (iI d.ec)])), (a 33, eI aC 100 d.e1), (a 34, eI aC 100 d.e2), (a 35, .inr (0, [.ref (a 36), .ref (a 37)])), (a 36, eJ aC 100 d.em), (a 37, eI aC 100 d.ee), (a 38, .inr (2, [.ref (a 39), .ref (a 40), .ref (a 41), .int (iI d.pc)])), (a 39, eI aC 60 d.p1), (a 40, eI aC 60 d.p2), (a 41, .inr (0, [.ref (a 42), .ref (a 43)])), (a 42, eJ aC 60 d.pm), (a 43, eI aC 60 d.pe), (b 16, eI aC 440 f), (b 18, eI aC 1200 f1), (b 19, eI aC 1200 f2), (b 20, eI aC 1200 f3), (b 21, eI aC 1200 f4), (b 22, eI aC 1200 f5), (b 0, .inr (6, [.int (iI er), .int (iI M.rw), .int (iI M.cn), .int (iI M.en), .int (iI M.pr), .double (dM M.ko (-3)), .ref (b 1), .ref (b 2), .ref (b 3), .ref (b 4), .ref (b 5), .ref (b 6), .ref (b 7), .ref (b 8), .ref (b 9), .ref (b 10), .ref (b 11), .ref (b 12), .ref (b 13), .ref (b 14), .ref (b 15), .int (iI p2), .ref (b 16), .ref (b 17), .ref (b 18), .ref (b 19), .ref (b 20), .ref (b 21), .ref (b 22)])), (b 17, eI aC 440 z), (b 1, eD aC 192 (dA M.ka c3)), (b 2, eD aC 16 (dA M.kc c3)), (b 3, eD aC 256 (dA M.kq c3)), (b 4, eD aC 16 (dA M.kl c3)), (b 5, eD aC 16 (dA M.kh c3)), (b 6, eD aC 12 (dA M.krl c3)), (b 7, eD aC 12 (dA M.krh c3)), (b 8, eD aC 16 (dA M.kx M.xb)), (b 9, eD aC 12 (dA M.ky M.yb)), (b 10, eZ aC 192 M.ai), (b 11, eZ aC 256 M.qi), (b 12, eZ aC 16 M.li), (b 13, eZ aC 16 M.hi), (b 14, eZ aC 12 M.rli), (b 15, eZ aC 12 M.rhi)] := e9
    subst e9
    change W p l e room_1 s m #[Value.ref sb] below meth c H locs (n1 + 1) (n2 + 6) Q (F0 m 286 ls [.int (iI 1)])
    refine lv_istore (lv' := [(6, .int (iI 1)), (5, .int (iI i)), (4, .ref od), (3, .ref ou), (2, .ref (b 0)), (1, .ref (a 0)), (0, .ref sb)]) hx hb d_La_law_286 hl (by decide) rfl (fun ls hl => ?_)
    refine lv_aload_n hx hb d_La_law_288 rfl (lv_at hl 4 rfl) ?_
    refine lv_aload_n hx hb d_La_law_289 rfl (lv_at hl 6 rfl) ?_
    refine lv_iload hx hb d_La_law_290 (lv_at hl 1 rfl) ?_
    refine lv_iconst (v := iI 1) hx hb d_La_law_292 rfl ?_
    refine x_iadd hx hb d_La_law_293 ?_
    refine x_sld hx hb hXs hbl hbA hS (by omega) (by omega) d_La_law_294 ?_
    have hsc294 := sc_r xs (i + 1)
    refine x_i2d hx hb d_La_law_295 (by omega) ?_
    refine x_ldc2d hx hb 1 (-3) (by decide +kernel) hown (hts _ wk_La_55) d_La_law_296 ?_
    refine x_dmul1 hx hb d_La_law_299 (by unfold dOk; omega) (by unfold dOk; omega) (by unfold dOk; omega) ?_
    refine x_topd _ _ (sc xs (i + 1)) (-3) (congrArg (dM (sc xs (i + 1))) (show (0 : Int) + (-3) = -3 from rfl)) ?_
    refine lv_aload_n hx hb d_La_law_300 rfl (lv_at hl 6 rfl) ?_
    refine lv_iload hx hb d_La_law_301 (lv_at hl 1 rfl) ?_
    refine lv_iconst (v := iI 2) hx hb d_La_law_303 rfl ?_
    refine x_iadd hx hb d_La_law_304 ?_
    refine x_sld hx hb hXs hbl hbA hS (by omega) (by omega) d_La_law_305 ?_
    have hsc305 := sc_r xs (i + 2)
    refine lv_aload_n hx hb d_La_law_306 rfl (lv_at hl 6 rfl) ?_
    refine lv_iload hx hb d_La_law_307 (lv_at hl 1 rfl) ?_
    refine lv_iconst (v := iI 3) hx hb d_La_law_309 rfl ?_
    refine x_iadd hx hb d_La_law_310 ?_
    refine x_sld hx hb hXs hbl hbA hS (by omega) (by omega) d_La_law_311 ?_
    have hsc311 := sc_r xs (i + 3)
    refine x_i2d hx hb d_La_law_312 (by omega) ?_
    refine x_ldc2d hx hb 1 (-3) (by decide +kernel) hown (hts _ wk_La_55) d_La_law_313 ?_
    refine x_dmul1 hx hb d_La_law_316 (by unfold dOk; omega) (by unfold dOk; omega) (by unfold dOk; omega) ?_
    refine x_topd _ _ (sc xs (i + 3)) (-3) (congrArg (dM (sc xs (i + 3))) (show (0 : Int) + (-3) = -3 from rfl)) ?_
    refine lv_aload_n hx hb d_La_law_317 rfl (lv_at hl 6 rfl) ?_
    refine lv_iload hx hb d_La_law_318 (lv_at hl 1 rfl) ?_
    refine lv_iconst (v := iI 4) hx hb d_La_law_320 rfl ?_
    refine x_iadd hx hb d_La_law_321 ?_
    refine x_sld hx hb hXs hbl hbA hS (by omega) (by omega) d_La_law_322 ?_
    have hsc322 := sc_r xs (i + 4)
    refine x_i2d hx hb d_La_law_323 (by omega) ?_
    refine x_ldc2d hx hb 1 (-3) (by decide +kernel) hown (hts _ wk_La_55) d_La_law_324 ?_
    refine x_dmul1 hx hb d_La_law_327 (by unfold dOk; omega) (by unfold dOk; omega) (by unfold dOk; omega) ?_
    refine x_topd _ _ (sc xs (i + 4)) (-3) (congrArg (dM (sc xs (i + 4))) (show (0 : Int) + (-3) = -3 from rfl)) ?_
    refine x_callVG S (c_Mo_column l D aC b M hM er p2 (sc xs (i + 2)) (sc xs (i + 3)) (sc xs (i + 4)) (by omega) (by omega) (by omega) (sc xs (i + 1)) (by omega)) t_La_74 ⟨rfl, rfl, by decide, by decide⟩ hK hN hP hD hS [58, 61, 63, 64, 71, 72] [] rfl (by decide +kernel) (fun v9 w9 hw => by rcases hw with ⟨h1, rfl, rfl⟩ | ⟨h1, h2, rfl, rfl⟩ | ⟨h1, h2, rfl, rfl⟩ <;> exact ⟨rfl, Nat.le_of_ble_eq_true rfl⟩) 0 6 rfl rfl rfl hl.1 rfl (Nat.le_of_ble_eq_true rfl) d_La_law_328 ⟨by show n1 + 1 ≤ 601024; omega, by show n2 + 6 ≤ 7293034; omega⟩ (fun v w1 ws1 H locs e9 hw hP hD hS => ?_)
    rcases hw with ⟨h1, rfl, rfl⟩ | ⟨h1, h2, rfl, rfl⟩ | ⟨h1, h2, rfl, rfl⟩
    · have e9 : ws1 = [(ou, eJ aC 1 o1), (od, eD aC 1 o2), (a 44, .inr (3, [.ref (a 45), .int (iI px), .int (iI pn)])), (a 45, eJ aC 6 pd), (a 46, .inr (4, [.ref (a 47), .long (lI mt), .int (iI ee)])), (a 47, eJ aC 112 fd), (a 48, .inr (4, [.ref (a 49), .long (lI mu), .int (iI eu)])), (a 49, eJ aC 112 gd), (a 0, .inr (5, [.ref (a 1), .ref (a 4), .ref (a 7), .ref (a 10), .ref (a 21), .ref (a 32), .ref (a 38), .ref (a 44), .ref (a 46), .ref (a 48)])), (a 1, .inr (0, [.ref (a 2), .ref (a 3)])), (a 2, eJ aC 1 d.om), (a 3, eI aC 1 d.oe), (a 4, .inr (0, [.ref (a 5), .ref (a 6)])), (a 5, eJ aC 1 d.nm), (a 6, eI aC 1 d.ne), (a 7, .inr (0, [.ref (a 8), .ref (a 9)])), (a 8, eJ aC 16 d.cm), (a 9, eI aC 16 d.ce), (a 10, .inr (1, [.ref (a 11), .ref (a 12), .ref (a 15), .ref (a 18), .int (iI d.rc)])), (a 11, eI aC 12 d.rl), (a 12, .inr (0, [.ref (a 13), .ref (a 14)])), (a 13, eJ aC 12 d.rlm), (a 14, eI aC 12 d.rle), (a 15, .inr (0, [.ref (a 16), .ref (a 17)])), (a 16, eJ aC 12 d.rhm), (a 17, eI aC 12 d.rhe), (a 18, .inr (0, [.ref (a 19), .ref (a 20)])), (a 19, eJ aC 12 d.rvm), (a 20, eI aC 12 d.rve), (a 21, .inr (1, [.ref (a 22), .ref (a 23), .ref (a 26), .ref (a 29), .int (iI d.cc)])), (a 22, eI aC 16 d.cl), (a 23, .inr (0, [.ref (a 24), .ref (a 25)])), (a 24, eJ aC 16 d.clm), (a 25, eI aC 16 d.cle), (a 26, .inr (0, [.ref (a 27), .ref (a 28)])), (a 27, eJ aC 16 d.chm), (a 28, eI aC 16 d.che), (a 29, .inr (0, [.ref (a 30), .ref (a 31)])), (a 30, eJ aC 16 d.cvm), (a 31, eI aC 16 d.cve), (a 32, .inr (2, [.ref (a 33), .ref (a 34), .ref (a 35), .int (iI d.ec)])), (a 33, eI aC 100 d.e1), (a 34, eI aC 100 d.e2), (a 35, .inr (0, [.ref (a 36), .ref (a 37)])), (a 36, eJ aC 100 d.em), (a 37, eI aC 100 d.ee), (a 38, .inr (2, [.ref (a 39), .ref (a 40), .ref (a 41), .int (iI d.pc)])), (a 39, eI aC 60 d.p1), (a 40, eI aC 60 d.p2), (a 41, .inr (0, [.ref (a 42), .ref (a 43)])), (a 42, eJ aC 60 d.pm), (a 43, eI aC 60 d.pe), (b 16, eI aC 440 f), (b 18, eI aC 1200 f1), (b 19, eI aC 1200 f2), (b 20, eI aC 1200 f3), (b 21, eI aC 1200 f4), (b 22, eI aC 1200 f5), (b 0, .inr (6, [.int (iI 1), .int (iI M.rw), .int (iI M.cn), .int (iI M.en), .int (iI M.pr), .double (dM M.ko (-3)), .ref (b 1), .ref (b 2), .ref (b 3), .ref (b 4), .ref (b 5), .ref (b 6), .ref (b 7), .ref (b 8), .ref (b 9), .ref (b 10), .ref (b 11), .ref (b 12), .ref (b 13), .ref (b 14), .ref (b 15), .int (iI p2), .ref (b 16), .ref (b 17), .ref (b 18), .ref (b 19), .ref (b 20), .ref (b 21), .ref (b 22)])), (b 17, eI aC 440 z), (b 1, eD aC 192 (dA M.ka c3)), (b 2, eD aC 16 (dA M.kc c3)), (b 3, eD aC 256 (dA M.kq c3)), (b 4, eD aC 16 (dA M.kl c3)), (b 5, eD aC 16 (dA M.kh c3)), (b 6, eD aC 12 (dA M.krl c3)), (b 7, eD aC 12 (dA M.krh c3)), (b 8, eD aC 16 (dA M.kx M.xb)), (b 9, eD aC 12 (dA M.ky M.yb)), (b 10, eZ aC 192 M.ai), (b 11, eZ aC 256 M.qi), (b 12, eZ aC 16 M.li), (b 13, eZ aC 16 M.hi), (b 14, eZ aC 12 M.rli), (b 15, eZ aC 12 M.rhi)] := e9
      subst e9
      change W p l e room_1 s m #[Value.ref sb] below meth c H locs (n1 + 1) (n2 + 6) Q (F0 m 331 ls [.int (iI 0)])
      refine lv_istore (lv' := [(7, .int (iI 0)), (6, .int (iI 1)), (5, .int (iI i)), (4, .ref od), (3, .ref ou), (2, .ref (b 0)), (1, .ref (a 0)), (0, .ref sb)]) hx hb d_La_law_331 hl (by decide) rfl (fun ls hl => ?_)
      refine lv_aload_n hx hb d_La_law_333 rfl (lv_at hl 5 rfl) ?_
      refine y_callV1 (V := .int (iI 1)) S (c_Mo_thrown l D aC b M 1 p2) t_La_63 (rm_9 (by decide) (by decide)) hK hN hP [58] rfl 0 6 rfl rfl rfl hl.1 rfl (Nat.le_of_ble_eq_true rfl) d_La_law_334 ⟨by show n1 + 1 ≤ 601024; omega, by show n2 + 6 ≤ 7293034; omega⟩ ?_
      refine lv_iload hx hb d_La_law_337 (lv_at hl 1 rfl) ?_
      refine x_icmp_eq (tgt := 344) hx hb d_La_law_339 (by decide) (by omega) (by omega) (fun c_339 => ?_) (fun c_339 => (by exfalso; omega))
      refine lv_iload hx hb d_La_law_344 (lv_at hl 1 rfl) ?_
      refine x_if_ne (tgt := 361) hx hb d_La_law_346 (by decide) (by decide) (fun c_346 => ?_) (fun c_346 => (by exfalso; omega))
      refine lv_goto (tgt := 841) hx hb d_La_law_361 (by decide) ?_
      refine W.widen (k := n1 + 2) (n := n2 + 12) (by omega) (by omega) ?_
      exact kk d M pd px pn fd mt ee gd mu eu 1 p2 f f1 f2 f3 f4 f5 z o1 o2 _ _ _ (hd) (hM) (hR) hP hD hS (lv_sub hl [2, 3, 4, 5, 6, 7] rfl)
    · exfalso; omega
    · exfalso; omega
  · have e9 : ws1 = [(ou, eJ aC 1 o1), (od, eD aC 1 o2), (a 44, .inr (3, [.ref (a 45), .int (iI px), .int (iI pn)])), (a 45, eJ aC 6 pd), (a 46, .inr (4, [.ref (a 47), .long (lI mt), .int (iI ee)])), (a 47, eJ aC 112 fd), (a 48, .inr (4, [.ref (a 49), .long (lI mu), .int (iI eu)])), (a 49, eJ aC 112 gd), (a 0, .inr (5, [.ref (a 1), .ref (a 4), .ref (a 7), .ref (a 10), .ref (a 21), .ref (a 32), .ref (a 38), .ref (a 44), .ref (a 46), .ref (a 48)])), (a 1, .inr (0, [.ref (a 2), .ref (a 3)])), (a 2, eJ aC 1 d.om), (a 3, eI aC 1 d.oe), (a 4, .inr (0, [.ref (a 5), .ref (a 6)])), (a 5, eJ aC 1 d.nm), (a 6, eI aC 1 d.ne), (a 7, .inr (0, [.ref (a 8), .ref (a 9)])), (a 8, eJ aC 16 d.cm), (a 9, eI aC 16 d.ce), (a 10, .inr (1, [.ref (a 11), .ref (a 12), .ref (a 15), .ref (a 18), .int (iI d.rc)])), (a 11, eI aC 12 d.rl), (a 12, .inr (0, [.ref (a 13), .ref (a 14)])), (a 13, eJ aC 12 d.rlm), (a 14, eI aC 12 d.rle), (a 15, .inr (0, [.ref (a 16), .ref (a 17)])), (a 16, eJ aC 12 d.rhm), (a 17, eI aC 12 d.rhe), (a 18, .inr (0, [.ref (a 19), .ref (a 20)])), (a 19, eJ aC 12 d.rvm), (a 20, eI aC 12 d.rve), (a 21, .inr (1, [.ref (a 22), .ref (a 23), .ref (a 26), .ref (a 29), .int (iI d.cc)])), (a 22, eI aC 16 d.cl), (a 23, .inr (0, [.ref (a 24), .ref (a 25)])), (a 24, eJ aC 16 d.clm), (a 25, eI aC 16 d.cle), (a 26, .inr (0, [.ref (a 27), .ref (a 28)])), (a 27, eJ aC 16 d.chm), (a 28, eI aC 16 d.che), (a 29, .inr (0, [.ref (a 30), .ref (a 31)])), (a 30, eJ aC 16 d.cvm), (a 31, eI aC 16 d.cve), (a 32, .inr (2, [.ref (a 33), .ref (a 34), .ref (a 35), .int (iI d.ec)])), (a 33, eI aC 100 d.e1), (a 34, eI aC 100 d.e2), (a 35, .inr (0, [.ref (a 36), .ref (a 37)])), (a 36, eJ aC 100 d.em), (a 37, eI aC 100 d.ee), (a 38, .inr (2, [.ref (a 39), .ref (a 40), .ref (a 41), .int (iI d.pc)])), (a 39, eI aC 60 d.p1), (a 40, eI aC 60 d.p2), (a 41, .inr (0, [.ref (a 42), .ref (a 43)])), (a 42, eJ aC 60 d.pm), (a 43, eI aC 60 d.pe), (b 16, eI aC 440 f), (b 18, eI aC 1200 f1), (b 19, eI aC 1200 f2), (b 20, eI aC 1200 f3), (b 21, eI aC 1200 f4), (b 22, eI aC 1200 f5), (b 0, .inr (6, [.int (iI er), .int (iI M.rw), .int (iI M.cn), .int (iI M.en), .int (iI M.pr), .double (dM M.ko (-3)), .ref (b 1), .ref (b 2), .ref (b 3), .ref (b 4), .ref (b 5), .ref (b 6), .ref (b 7), .ref (b 8), .ref (b 9), .ref (b 10), .ref (b 11), .ref (b 12), .ref (b 13), .ref (b 14), .ref (b 15), .int (iI p2), .ref (b 16), .ref (b 17), .ref (b 18), .ref (b 19), .ref (b 20), .ref (b 21), .ref (b 22)])), (b 17, eI aC 440 z), (b 1, eD aC 192 (dA M.ka c3)), (b 2, eD aC 16 (dA M.kc c3)), (b 3, eD aC 256 (dA M.kq c3)), (b 4, eD aC 16 (dA M.kl c3)), (b 5, eD aC 16 (dA M.kh c3)), (b 6, eD aC 12 (dA M.krl c3)), (b 7, eD aC 12 (dA M.krh c3)), (b 8, eD aC 16 (dA M.kx M.xb)), (b 9, eD aC 12 (dA M.ky M.yb)), (b 10, eZ aC 192 M.ai), (b 11, eZ aC 256 M.qi), (b 12, eZ aC 16 M.li), (b 13, eZ aC 16 M.hi), (b 14, eZ aC 12 M.rli), (b 15, eZ aC 12 M.rhi)] := e9
    subst e9
    change W p l e room_1 s m #[Value.ref sb] below meth c H locs (n1 + 1) (n2 + 6) Q (F0 m 286 ls [.int (iI 2)])
    refine lv_istore (lv' := [(6, .int (iI 2)), (5, .int (iI i)), (4, .ref od), (3, .ref ou), (2, .ref (b 0)), (1, .ref (a 0)), (0, .ref sb)]) hx hb d_La_law_286 hl (by decide) rfl (fun ls hl => ?_)
    refine lv_aload_n hx hb d_La_law_288 rfl (lv_at hl 4 rfl) ?_
    refine lv_aload_n hx hb d_La_law_289 rfl (lv_at hl 6 rfl) ?_
    refine lv_iload hx hb d_La_law_290 (lv_at hl 1 rfl) ?_
    refine lv_iconst (v := iI 1) hx hb d_La_law_292 rfl ?_
    refine x_iadd hx hb d_La_law_293 ?_
    refine x_sld hx hb hXs hbl hbA hS (by omega) (by omega) d_La_law_294 ?_
    have hsc294 := sc_r xs (i + 1)
    refine x_i2d hx hb d_La_law_295 (by omega) ?_
    refine x_ldc2d hx hb 1 (-3) (by decide +kernel) hown (hts _ wk_La_55) d_La_law_296 ?_
    refine x_dmul1 hx hb d_La_law_299 (by unfold dOk; omega) (by unfold dOk; omega) (by unfold dOk; omega) ?_
    refine x_topd _ _ (sc xs (i + 1)) (-3) (congrArg (dM (sc xs (i + 1))) (show (0 : Int) + (-3) = -3 from rfl)) ?_
    refine lv_aload_n hx hb d_La_law_300 rfl (lv_at hl 6 rfl) ?_
    refine lv_iload hx hb d_La_law_301 (lv_at hl 1 rfl) ?_
    refine lv_iconst (v := iI 2) hx hb d_La_law_303 rfl ?_
    refine x_iadd hx hb d_La_law_304 ?_
    refine x_sld hx hb hXs hbl hbA hS (by omega) (by omega) d_La_law_305 ?_
    have hsc305 := sc_r xs (i + 2)
    refine lv_aload_n hx hb d_La_law_306 rfl (lv_at hl 6 rfl) ?_
    refine lv_iload hx hb d_La_law_307 (lv_at hl 1 rfl) ?_
    refine lv_iconst (v := iI 3) hx hb d_La_law_309 rfl ?_
    refine x_iadd hx hb d_La_law_310 ?_
    refine x_sld hx hb hXs hbl hbA hS (by omega) (by omega) d_La_law_311 ?_
    have hsc311 := sc_r xs (i + 3)
    refine x_i2d hx hb d_La_law_312 (by omega) ?_
    refine x_ldc2d hx hb 1 (-3) (by decide +kernel) hown (hts _ wk_La_55) d_La_law_313 ?_
    refine x_dmul1 hx hb d_La_law_316 (by unfold dOk; omega) (by unfold dOk; omega) (by unfold dOk; omega) ?_
    refine x_topd _ _ (sc xs (i + 3)) (-3) (congrArg (dM (sc xs (i + 3))) (show (0 : Int) + (-3) = -3 from rfl)) ?_
    refine lv_aload_n hx hb d_La_law_317 rfl (lv_at hl 6 rfl) ?_
    refine lv_iload hx hb d_La_law_318 (lv_at hl 1 rfl) ?_
    refine lv_iconst (v := iI 4) hx hb d_La_law_320 rfl ?_
    refine x_iadd hx hb d_La_law_321 ?_
    refine x_sld hx hb hXs hbl hbA hS (by omega) (by omega) d_La_law_322 ?_
    have hsc322 := sc_r xs (i + 4)
    refine x_i2d hx hb d_La_law_323 (by omega) ?_
    refine x_ldc2d hx hb 1 (-3) (by decide +kernel) hown (hts _ wk_La_55) d_La_law_324 ?_
    refine x_dmul1 hx hb d_La_law_327 (by unfold dOk; omega) (by unfold dOk; omega) (by unfold dOk; omega) ?_
    refine x_topd _ _ (sc xs (i + 4)) (-3) (congrArg (dM (sc xs (i + 4))) (show (0 : Int) + (-3) = -3 from rfl)) ?_
    refine x_callVG S (c_Mo_column l D aC b M hM er p2 (sc xs (i + 2)) (sc xs (i + 3)) (sc xs (i + 4)) (by omega) (by omega) (by omega) (sc xs (i + 1)) (by omega)) t_La_74 ⟨rfl, rfl, by decide, by decide⟩ hK hN hP hD hS [58, 61, 63, 64, 71, 72] [] rfl (by decide +kernel) (fun v9 w9 hw => by rcases hw with ⟨h1, rfl, rfl⟩ | ⟨h1, h2, rfl, rfl⟩ | ⟨h1, h2, rfl, rfl⟩ <;> exact ⟨rfl, Nat.le_of_ble_eq_true rfl⟩) 0 6 rfl rfl rfl hl.1 rfl (Nat.le_of_ble_eq_true rfl) d_La_law_328 ⟨by show n1 + 1 ≤ 601024; omega, by show n2 + 6 ≤ 7293034; omega⟩ (fun v w1 ws1 H locs e9 hw hP hD hS => ?_)
    rcases hw with ⟨h1, rfl, rfl⟩ | ⟨h1, h2, rfl, rfl⟩ | ⟨h1, h2, rfl, rfl⟩
    · exfalso; omega
    · have e9 : ws1 = [(ou, eJ aC 1 o1), (od, eD aC 1 o2), (a 44, .inr (3, [.ref (a 45), .int (iI px), .int (iI pn)])), (a 45, eJ aC 6 pd), (a 46, .inr (4, [.ref (a 47), .long (lI mt), .int (iI ee)])), (a 47, eJ aC 112 fd), (a 48, .inr (4, [.ref (a 49), .long (lI mu), .int (iI eu)])), (a 49, eJ aC 112 gd), (a 0, .inr (5, [.ref (a 1), .ref (a 4), .ref (a 7), .ref (a 10), .ref (a 21), .ref (a 32), .ref (a 38), .ref (a 44), .ref (a 46), .ref (a 48)])), (a 1, .inr (0, [.ref (a 2), .ref (a 3)])), (a 2, eJ aC 1 d.om), (a 3, eI aC 1 d.oe), (a 4, .inr (0, [.ref (a 5), .ref (a 6)])), (a 5, eJ aC 1 d.nm), (a 6, eI aC 1 d.ne), (a 7, .inr (0, [.ref (a 8), .ref (a 9)])), (a 8, eJ aC 16 d.cm), (a 9, eI aC 16 d.ce), (a 10, .inr (1, [.ref (a 11), .ref (a 12), .ref (a 15), .ref (a 18), .int (iI d.rc)])), (a 11, eI aC 12 d.rl), (a 12, .inr (0, [.ref (a 13), .ref (a 14)])), (a 13, eJ aC 12 d.rlm), (a 14, eI aC 12 d.rle), (a 15, .inr (0, [.ref (a 16), .ref (a 17)])), (a 16, eJ aC 12 d.rhm), (a 17, eI aC 12 d.rhe), (a 18, .inr (0, [.ref (a 19), .ref (a 20)])), (a 19, eJ aC 12 d.rvm), (a 20, eI aC 12 d.rve), (a 21, .inr (1, [.ref (a 22), .ref (a 23), .ref (a 26), .ref (a 29), .int (iI d.cc)])), (a 22, eI aC 16 d.cl), (a 23, .inr (0, [.ref (a 24), .ref (a 25)])), (a 24, eJ aC 16 d.clm), (a 25, eI aC 16 d.cle), (a 26, .inr (0, [.ref (a 27), .ref (a 28)])), (a 27, eJ aC 16 d.chm), (a 28, eI aC 16 d.che), (a 29, .inr (0, [.ref (a 30), .ref (a 31)])), (a 30, eJ aC 16 d.cvm), (a 31, eI aC 16 d.cve), (a 32, .inr (2, [.ref (a 33), .ref (a 34), .ref (a 35), .int (iI d.ec)])), (a 33, eI aC 100 d.e1), (a 34, eI aC 100 d.e2), (a 35, .inr (0, [.ref (a 36), .ref (a 37)])), (a 36, eJ aC 100 d.em), (a 37, eI aC 100 d.ee), (a 38, .inr (2, [.ref (a 39), .ref (a 40), .ref (a 41), .int (iI d.pc)])), (a 39, eI aC 60 d.p1), (a 40, eI aC 60 d.p2), (a 41, .inr (0, [.ref (a 42), .ref (a 43)])), (a 42, eJ aC 60 d.pm), (a 43, eI aC 60 d.pe), (b 16, eI aC 440 f), (b 18, eI aC 1200 f1), (b 19, eI aC 1200 f2), (b 20, eI aC 1200 f3), (b 21, eI aC 1200 f4), (b 22, eI aC 1200 f5), (b 0, .inr (6, [.int (iI 2), .int (iI M.rw), .int (iI M.cn), .int (iI M.en), .int (iI M.pr), .double (dM M.ko (-3)), .ref (b 1), .ref (b 2), .ref (b 3), .ref (b 4), .ref (b 5), .ref (b 6), .ref (b 7), .ref (b 8), .ref (b 9), .ref (b 10), .ref (b 11), .ref (b 12), .ref (b 13), .ref (b 14), .ref (b 15), .int (iI p2), .ref (b 16), .ref (b 17), .ref (b 18), .ref (b 19), .ref (b 20), .ref (b 21), .ref (b 22)])), (b 17, eI aC 440 z), (b 1, eD aC 192 (dA M.ka c3)), (b 2, eD aC 16 (dA M.kc c3)), (b 3, eD aC 256 (dA M.kq c3)), (b 4, eD aC 16 (dA M.kl c3)), (b 5, eD aC 16 (dA M.kh c3)), (b 6, eD aC 12 (dA M.krl c3)), (b 7, eD aC 12 (dA M.krh c3)), (b 8, eD aC 16 (dA M.kx M.xb)), (b 9, eD aC 12 (dA M.ky M.yb)), (b 10, eZ aC 192 M.ai), (b 11, eZ aC 256 M.qi), (b 12, eZ aC 16 M.li), (b 13, eZ aC 16 M.hi), (b 14, eZ aC 12 M.rli), (b 15, eZ aC 12 M.rhi)] := e9
      subst e9
      change W p l e room_1 s m #[Value.ref sb] below meth c H locs (n1 + 1) (n2 + 6) Q (F0 m 331 ls [.int (iI 0)])
      refine lv_istore (lv' := [(7, .int (iI 0)), (6, .int (iI 2)), (5, .int (iI i)), (4, .ref od), (3, .ref ou), (2, .ref (b 0)), (1, .ref (a 0)), (0, .ref sb)]) hx hb d_La_law_331 hl (by decide) rfl (fun ls hl => ?_)
      refine lv_aload_n hx hb d_La_law_333 rfl (lv_at hl 5 rfl) ?_
      refine y_callV1 (V := .int (iI 2)) S (c_Mo_thrown l D aC b M 2 p2) t_La_63 (rm_9 (by decide) (by decide)) hK hN hP [58] rfl 0 6 rfl rfl rfl hl.1 rfl (Nat.le_of_ble_eq_true rfl) d_La_law_334 ⟨by show n1 + 1 ≤ 601024; omega, by show n2 + 6 ≤ 7293034; omega⟩ ?_
      refine lv_iload hx hb d_La_law_337 (lv_at hl 1 rfl) ?_
      refine x_icmp_eq (tgt := 344) hx hb d_La_law_339 (by decide) (by omega) (by omega) (fun c_339 => ?_) (fun c_339 => (by exfalso; omega))
      refine lv_iload hx hb d_La_law_344 (lv_at hl 1 rfl) ?_
      refine x_if_ne (tgt := 361) hx hb d_La_law_346 (by decide) (by decide) (fun c_346 => ?_) (fun c_346 => (by exfalso; omega))
      refine lv_goto (tgt := 841) hx hb d_La_law_361 (by decide) ?_
      refine W.widen (k := n1 + 2) (n := n2 + 12) (by omega) (by omega) ?_
      exact kk d M pd px pn fd mt ee gd mu eu 2 p2 f f1 f2 f3 f4 f5 z o1 o2 _ _ _ (hd) (hM) (hR) hP hD hS (lv_sub hl [2, 3, 4, 5, 6, 7] rfl)
    · exfalso; omega
set_option maxHeartbeats 8000000 in
set_option maxRecDepth 100000 in
theorem law_3 {p : Program} {l : Launch} {e : Env} {s : State} {m : MethodId} {below : List Frame} {meth : Method} {c : Code} {D : va_G} {aC : Nat → ClassId} {sa : Nat → Nat} {a b : Nat → Nat} {ou od sb L : Nat} {xs : Nat → Int32} {Q : State → Prop} (C0 : LC p l s m meth c D aC sa sb L xs) {i : Int} {n1 n2 : Nat} (hi : 0 ≤ i ∧ i + 5 ≤ (L : Int)) (hn1 : n1 + 2 ≤ 601024) (hn2 : n2 + 12 ≤ 7293034) (kk : LK p l e s m below meth c D aC a b ou od sb Q i 841 (n1 + 2) (n2 + 12)) : LK p l e s m below meth c D aC a b ou od sb Q i 364 n1 n2 := by
  intro d M pd px pn fd mt ee gd mu eu er p2 f f1 f2 f3 f4 f5 z o1 o2 H locs ls hd hM hR hP hD hS hl
  obtain ⟨S, hXs, hbl, hL9, hst, hK, hN, hX, hNC⟩ := C0
  obtain ⟨hx, hb, hml, hown, hts⟩ := id S
  have hbA : ¬ (fun q : Nat => s.heap.size ≤ q) sb := Nat.not_le.mpr hbl
  have hn := hR.n
  have hrw := hM.rw
  have hcn := hM.cn
  have hen := hM.en
  have hpr := hM.pr
  refine lv_aload_n hx hb d_La_law_364 rfl (lv_at hl 4 rfl) ?_
  refine lv_aload_n hx hb d_La_law_365 rfl (lv_at hl 5 rfl) ?_
  refine lv_iload hx hb d_La_law_366 (lv_at hl 0 rfl) ?_
  refine lv_iconst (v := iI 1) hx hb d_La_law_368 rfl ?_
  refine x_iadd hx hb d_La_law_369 ?_
  refine x_sld hx hb hXs hbl hbA hS (by omega) (by omega) d_La_law_370 ?_
  have hsc370 := sc_r xs (i + 1)
  refine lv_aload_n hx hb d_La_law_371 rfl (lv_at hl 5 rfl) ?_
  refine lv_iload hx hb d_La_law_372 (lv_at hl 0 rfl) ?_
  refine lv_iconst (v := iI 2) hx hb d_La_law_374 rfl ?_
  refine x_iadd hx hb d_La_law_375 ?_
  refine x_sld hx hb hXs hbl hbA hS (by omega) (by omega) d_La_law_376 ?_
  have hsc376 := sc_r xs (i + 2)
  refine lv_aload_n hx hb d_La_law_377 rfl (lv_at hl 5 rfl) ?_
  refine lv_iload hx hb d_La_law_378 (lv_at hl 0 rfl) ?_
  refine lv_iconst (v := iI 3) hx hb d_La_law_380 rfl ?_
  refine x_iadd hx hb d_La_law_381 ?_
  refine x_sld hx hb hXs hbl hbA hS (by omega) (by omega) d_La_law_382 ?_
  have hsc382 := sc_r xs (i + 3)
  refine x_i2d hx hb d_La_law_383 (by omega) ?_
  refine x_ldc2d hx hb 1 (-3) (by decide +kernel) hown (hts _ wk_La_55) d_La_law_384 ?_
  refine x_dmul1 hx hb d_La_law_387 (by unfold dOk; omega) (by unfold dOk; omega) (by unfold dOk; omega) ?_
  refine x_topd _ _ (sc xs (i + 3)) (-3) (congrArg (dM (sc xs (i + 3))) (show (0 : Int) + (-3) = -3 from rfl)) ?_
  refine lv_aload_n hx hb d_La_law_388 rfl (lv_at hl 2 rfl) ?_
  refine x_callW S (c_La_entry l D aC sa hst a d hd (sc xs (i + 1)) (sc xs (i + 2)) (by omega) (by omega) (sc xs (i + 3)) (by omega) ou o1) tl_75 ⟨rfl, rfl, by decide, by decide⟩ hK hN hX hNC hP hD hS [0, 8, 18, 19, 29, 30, 40, 41, 42, 43, 44, 45] [] rfl (by decide +kernel) (fun v9 w9 hw => by rcases hw with ⟨rfl, hok, rfl⟩ | ⟨rfl, hok, rfl⟩ | ⟨rfl, hok, rfl⟩ | ⟨rfl, hok, rfl⟩ <;> exact ⟨rfl, Nat.le_of_ble_eq_true rfl⟩) rfl hl.1 rfl (Nat.le_of_ble_eq_true rfl) d_La_law_389 ⟨by show n1 + 1 ≤ 601024; omega, by show n2 + 6 ≤ 7293034; omega⟩ (fun v w1 ws1 H locs e9 hw hP hD hS => ?_)
  rcases hw with ⟨rfl, hok, rfl⟩ | ⟨rfl, hok, rfl⟩ | ⟨rfl, hok, rfl⟩ | ⟨rfl, hok, rfl⟩
  · have e9 : ws1 = [(ou, eJ aC 1 (updI o1 0 (d.ec + 1))), (od, eD aC 1 o2), (a 44, .inr (3, [.ref (a 45), .int (iI px), .int (iI pn)])), (a 45, eJ aC 6 pd), (a 46, .inr (4, [.ref (a 47), .long (lI mt), .int (iI ee)])), (a 47, eJ aC 112 fd), (a 48, .inr (4, [.ref (a 49), .long (lI mu), .int (iI eu)])), (a 49, eJ aC 112 gd), (a 0, .inr (5, [.ref (a 1), .ref (a 4), .ref (a 7), .ref (a 10), .ref (a 21), .ref (a 32), .ref (a 38), .ref (a 44), .ref (a 46), .ref (a 48)])), (a 1, .inr (0, [.ref (a 2), .ref (a 3)])), (a 2, eJ aC 1 d.om), (a 3, eI aC 1 d.oe), (a 4, .inr (0, [.ref (a 5), .ref (a 6)])), (a 5, eJ aC 1 d.nm), (a 6, eI aC 1 d.ne), (a 7, .inr (0, [.ref (a 8), .ref (a 9)])), (a 8, eJ aC 16 d.cm), (a 9, eI aC 16 d.ce), (a 10, .inr (1, [.ref (a 11), .ref (a 12), .ref (a 15), .ref (a 18), .int (iI d.rc)])), (a 11, eI aC 12 d.rl), (a 12, .inr (0, [.ref (a 13), .ref (a 14)])), (a 13, eJ aC 12 d.rlm), (a 14, eI aC 12 d.rle), (a 15, .inr (0, [.ref (a 16), .ref (a 17)])), (a 16, eJ aC 12 d.rhm), (a 17, eI aC 12 d.rhe), (a 18, .inr (0, [.ref (a 19), .ref (a 20)])), (a 19, eJ aC 12 d.rvm), (a 20, eI aC 12 d.rve), (a 21, .inr (1, [.ref (a 22), .ref (a 23), .ref (a 26), .ref (a 29), .int (iI d.cc)])), (a 22, eI aC 16 d.cl), (a 23, .inr (0, [.ref (a 24), .ref (a 25)])), (a 24, eJ aC 16 d.clm), (a 25, eI aC 16 d.cle), (a 26, .inr (0, [.ref (a 27), .ref (a 28)])), (a 27, eJ aC 16 d.chm), (a 28, eI aC 16 d.che), (a 29, .inr (0, [.ref (a 30), .ref (a 31)])), (a 30, eJ aC 16 d.cvm), (a 31, eI aC 16 d.cve), (a 32, .inr (2, [.ref (a 33), .ref (a 34), .ref (a 35), .int (iI (d.ec + 1))])), (a 33, eI aC 100 (updI d.e1 d.ec (sc xs (i + 1)))), (a 34, eI aC 100 (updI d.e2 d.ec (sc xs (i + 2)))), (a 35, .inr (0, [.ref (a 36), .ref (a 37)])), (a 36, eJ aC 100 (updI d.em d.ec ((sc xs (i + 3)) * 2 ^ nt (sc xs (i + 3))))), (a 37, eI aC 100 (updI d.ee d.ec (nx (sc xs (i + 3)) (-3) 0))), (a 38, .inr (2, [.ref (a 39), .ref (a 40), .ref (a 41), .int (iI d.pc)])), (a 39, eI aC 60 d.p1), (a 40, eI aC 60 d.p2), (a 41, .inr (0, [.ref (a 42), .ref (a 43)])), (a 42, eJ aC 60 d.pm), (a 43, eI aC 60 d.pe), (b 16, eI aC 440 f), (b 18, eI aC 1200 f1), (b 19, eI aC 1200 f2), (b 20, eI aC 1200 f3), (b 21, eI aC 1200 f4), (b 22, eI aC 1200 f5), (b 0, .inr (6, [.int (iI er), .int (iI M.rw), .int (iI M.cn), .int (iI M.en), .int (iI M.pr), .double (dM M.ko (-3)), .ref (b 1), .ref (b 2), .ref (b 3), .ref (b 4), .ref (b 5), .ref (b 6), .ref (b 7), .ref (b 8), .ref (b 9), .ref (b 10), .ref (b 11), .ref (b 12), .ref (b 13), .ref (b 14), .ref (b 15), .int (iI p2), .ref (b 16), .ref (b 17), .ref (b 18), .ref (b 19), .ref (b 20), .ref (b 21), .ref (b 22)])), (b 17, eI aC 440 z), (b 1, eD aC 192 (dA M.ka c3)), (b 2, eD aC 16 (dA M.kc c3)), (b 3, eD aC 256 (dA M.kq c3)), (b 4, eD aC 16 (dA M.kl c3)), (b 5, eD aC 16 (dA M.kh c3)), (b 6, eD aC 12 (dA M.krl c3)), (b 7, eD aC 12 (dA M.krh c3)), (b 8, eD aC 16 (dA M.kx M.xb)), (b 9, eD aC 12 (dA M.ky M.yb)), (b 10, eZ aC 192 M.ai), (b 11, eZ aC 256 M.qi), (b 12, eZ aC 16 M.li), (b 13, eZ aC 16 M.hi), (b 14, eZ aC 12 M.rli), (b 15, eZ aC 12 M.rhi)] := e9
    subst e9
    change W p l e room_1 s m #[Value.ref sb] below meth c H locs (n1 + 1) (n2 + 6) Q (F0 m 392 ls [.int (iI 0)])
    refine lv_istore (lv' := [(6, .int (iI 0)), (5, .int (iI i)), (4, .ref od), (3, .ref ou), (2, .ref (b 0)), (1, .ref (a 0)), (0, .ref sb)]) hx hb d_La_law_392 hl (by decide) rfl (fun ls hl => ?_)
    refine lv_aload_n hx hb d_La_law_394 rfl (lv_at hl 4 rfl) ?_
    refine lv_aload_n hx hb d_La_law_395 rfl (lv_at hl 6 rfl) ?_
    refine lv_iload hx hb d_La_law_396 (lv_at hl 1 rfl) ?_
    refine lv_iconst (v := iI 1) hx hb d_La_law_398 rfl ?_
    refine x_iadd hx hb d_La_law_399 ?_
    refine x_sld hx hb hXs hbl hbA hS (by omega) (by omega) d_La_law_400 ?_
    have hsc400 := sc_r xs (i + 1)
    refine lv_aload_n hx hb d_La_law_401 rfl (lv_at hl 6 rfl) ?_
    refine lv_iload hx hb d_La_law_402 (lv_at hl 1 rfl) ?_
    refine lv_iconst (v := iI 2) hx hb d_La_law_404 rfl ?_
    refine x_iadd hx hb d_La_law_405 ?_
    refine x_sld hx hb hXs hbl hbA hS (by omega) (by omega) d_La_law_406 ?_
    have hsc406 := sc_r xs (i + 2)
    refine lv_aload_n hx hb d_La_law_407 rfl (lv_at hl 6 rfl) ?_
    refine lv_iload hx hb d_La_law_408 (lv_at hl 1 rfl) ?_
    refine lv_iconst (v := iI 3) hx hb d_La_law_410 rfl ?_
    refine x_iadd hx hb d_La_law_411 ?_
    refine x_sld hx hb hXs hbl hbA hS (by omega) (by omega) d_La_law_412 ?_
    have hsc412 := sc_r xs (i + 3)
    refine x_i2d hx hb d_La_law_413 (by omega) ?_
    refine x_ldc2d hx hb 1 (-3) (by decide +kernel) hown (hts _ wk_La_55) d_La_law_414 ?_
    refine x_dmul1 hx hb d_La_law_417 (by unfold dOk; omega) (by unfold dOk; omega) (by unfold dOk; omega) ?_
    refine x_topd _ _ (sc xs (i + 3)) (-3) (congrArg (dM (sc xs (i + 3))) (show (0 : Int) + (-3) = -3 from rfl)) ?_
    refine x_callVG S (c_Mo_entry_0 l D aC b M hM er p2 (sc xs (i + 1)) (sc xs (i + 2)) (sc xs (i + 3)) (by omega) (by omega) (by omega) (fun z9 => Decidable.byContradiction (fun h9 => hok.2.1 ((hR.ai hM z9.1 z9.2).mpr h9)))) t_La_78 ⟨rfl, rfl, by decide, by decide⟩ hK hN hP hD hS [58, 60, 69] [] rfl (by decide +kernel) (fun v9 w9 hw => by rcases hw with ⟨h1, rfl, rfl⟩ | ⟨h1, h2, rfl, rfl⟩ | ⟨h1, h2, rfl, rfl⟩ <;> exact ⟨rfl, Nat.le_of_ble_eq_true rfl⟩) 0 6 rfl rfl rfl hl.1 rfl (Nat.le_of_ble_eq_true rfl) d_La_law_418 ⟨by show n1 + 1 ≤ 601024; omega, by show n2 + 6 ≤ 7293034; omega⟩ (fun v w1 ws1 H locs e9 hw hP hD hS => ?_)
    rcases hw with ⟨h1, rfl, rfl⟩ | ⟨h1, h2, rfl, rfl⟩ | ⟨h1, h2, rfl, rfl⟩
    · exfalso; omega
    · exfalso; omega
    · have e9 : ws1 = [(ou, eJ aC 1 (updI o1 0 (d.ec + 1))), (od, eD aC 1 o2), (a 44, .inr (3, [.ref (a 45), .int (iI px), .int (iI pn)])), (a 45, eJ aC 6 pd), (a 46, .inr (4, [.ref (a 47), .long (lI mt), .int (iI ee)])), (a 47, eJ aC 112 fd), (a 48, .inr (4, [.ref (a 49), .long (lI mu), .int (iI eu)])), (a 49, eJ aC 112 gd), (a 0, .inr (5, [.ref (a 1), .ref (a 4), .ref (a 7), .ref (a 10), .ref (a 21), .ref (a 32), .ref (a 38), .ref (a 44), .ref (a 46), .ref (a 48)])), (a 1, .inr (0, [.ref (a 2), .ref (a 3)])), (a 2, eJ aC 1 d.om), (a 3, eI aC 1 d.oe), (a 4, .inr (0, [.ref (a 5), .ref (a 6)])), (a 5, eJ aC 1 d.nm), (a 6, eI aC 1 d.ne), (a 7, .inr (0, [.ref (a 8), .ref (a 9)])), (a 8, eJ aC 16 d.cm), (a 9, eI aC 16 d.ce), (a 10, .inr (1, [.ref (a 11), .ref (a 12), .ref (a 15), .ref (a 18), .int (iI d.rc)])), (a 11, eI aC 12 d.rl), (a 12, .inr (0, [.ref (a 13), .ref (a 14)])), (a 13, eJ aC 12 d.rlm), (a 14, eI aC 12 d.rle), (a 15, .inr (0, [.ref (a 16), .ref (a 17)])), (a 16, eJ aC 12 d.rhm), (a 17, eI aC 12 d.rhe), (a 18, .inr (0, [.ref (a 19), .ref (a 20)])), (a 19, eJ aC 12 d.rvm), (a 20, eI aC 12 d.rve), (a 21, .inr (1, [.ref (a 22), .ref (a 23), .ref (a 26), .ref (a 29), .int (iI d.cc)])), (a 22, eI aC 16 d.cl), (a 23, .inr (0, [.ref (a 24), .ref (a 25)])), (a 24, eJ aC 16 d.clm), (a 25, eI aC 16 d.cle), (a 26, .inr (0, [.ref (a 27), .ref (a 28)])), (a 27, eJ aC 16 d.chm), (a 28, eI aC 16 d.che), (a 29, .inr (0, [.ref (a 30), .ref (a 31)])), (a 30, eJ aC 16 d.cvm), (a 31, eI aC 16 d.cve), (a 32, .inr (2, [.ref (a 33), .ref (a 34), .ref (a 35), .int (iI (d.ec + 1))])), (a 33, eI aC 100 (updI d.e1 d.ec (sc xs (i + 1)))), (a 34, eI aC 100 (updI d.e2 d.ec (sc xs (i + 2)))), (a 35, .inr (0, [.ref (a 36), .ref (a 37)])), (a 36, eJ aC 100 (updI d.em d.ec ((sc xs (i + 3)) * 2 ^ nt (sc xs (i + 3))))), (a 37, eI aC 100 (updI d.ee d.ec (nx (sc xs (i + 3)) (-3) 0))), (a 38, .inr (2, [.ref (a 39), .ref (a 40), .ref (a 41), .int (iI d.pc)])), (a 39, eI aC 60 d.p1), (a 40, eI aC 60 d.p2), (a 41, .inr (0, [.ref (a 42), .ref (a 43)])), (a 42, eJ aC 60 d.pm), (a 43, eI aC 60 d.pe), (b 16, eI aC 440 f), (b 18, eI aC 1200 f1), (b 19, eI aC 1200 f2), (b 20, eI aC 1200 f3), (b 21, eI aC 1200 f4), (b 22, eI aC 1200 f5), (b 0, .inr (6, [.int (iI 0), .int (iI M.rw), .int (iI M.cn), .int (iI (M.en + 1)), .int (iI M.pr), .double (dM M.ko (-3)), .ref (b 1), .ref (b 2), .ref (b 3), .ref (b 4), .ref (b 5), .ref (b 6), .ref (b 7), .ref (b 8), .ref (b 9), .ref (b 10), .ref (b 11), .ref (b 12), .ref (b 13), .ref (b 14), .ref (b 15), .int (iI p2), .ref (b 16), .ref (b 17), .ref (b 18), .ref (b 19), .ref (b 20), .ref (b 21), .ref (b 22)])), (b 17, eI aC 440 z), (b 1, eD aC 192 (dA (updI M.ka ((sc xs (i + 1)) * 16 + (sc xs (i + 2))) (sc xs (i + 3))) c3)), (b 2, eD aC 16 (dA M.kc c3)), (b 3, eD aC 256 (dA M.kq c3)), (b 4, eD aC 16 (dA M.kl c3)), (b 5, eD aC 16 (dA M.kh c3)), (b 6, eD aC 12 (dA M.krl c3)), (b 7, eD aC 12 (dA M.krh c3)), (b 8, eD aC 16 (dA M.kx M.xb)), (b 9, eD aC 12 (dA M.ky M.yb)), (b 10, eZ aC 192 (updI M.ai ((sc xs (i + 1)) * 16 + (sc xs (i + 2))) 1)), (b 11, eZ aC 256 M.qi), (b 12, eZ aC 16 M.li), (b 13, eZ aC 16 M.hi), (b 14, eZ aC 12 M.rli), (b 15, eZ aC 12 M.rhi)] := e9
      subst e9
      change W p l e room_1 s m #[Value.ref sb] below meth c H locs (n1 + 1) (n2 + 6) Q (F0 m 421 ls [.int (iI (M.en + 1))])
      refine lv_istore (lv' := [(7, .int (iI (M.en + 1))), (6, .int (iI 0)), (5, .int (iI i)), (4, .ref od), (3, .ref ou), (2, .ref (b 0)), (1, .ref (a 0)), (0, .ref sb)]) hx hb d_La_law_421 hl (by decide) rfl (fun ls hl => ?_)
      refine lv_aload_n hx hb d_La_law_423 rfl (lv_at hl 5 rfl) ?_
      refine y_callV1 (V := .int (iI 0)) S (c_Mo_thrown l D aC b (mEnt M (sc xs (i + 1)) (sc xs (i + 2)) (sc xs (i + 3))) 0 p2) t_La_63 (rm_9 (by decide) (by decide)) hK hN hP [58] rfl 0 6 rfl rfl rfl hl.1 rfl (Nat.le_of_ble_eq_true rfl) d_La_law_424 ⟨by show n1 + 1 ≤ 601024; omega, by show n2 + 6 ≤ 7293034; omega⟩ ?_
      refine lv_iload hx hb d_La_law_427 (lv_at hl 1 rfl) ?_
      refine x_icmp_eq (tgt := 434) hx hb d_La_law_429 (by decide) (by omega) (by omega) (fun c_429 => ?_) (fun c_429 => (by exfalso; omega))
      refine lv_iload hx hb d_La_law_434 (lv_at hl 1 rfl) ?_
      refine x_if_ne (tgt := 451) hx hb d_La_law_436 (by decide) (by decide) (fun c_436 => (by exfalso; omega)) (fun c_436 => ?_)
      refine lv_aload_n hx hb d_La_law_439 rfl (lv_at hl 4 rfl) ?_
      refine lv_iconst (v := iI 0) hx hb d_La_law_440 rfl ?_
      refine x_lald hx hb hK hP 0 rfl (by omega) (by decide) d_La_law_441 ?_
      refine x_topl ((updI o1 0 (d.ec + 1)) 0) (d.ec + 1) (updI_s _ _ _) ?_
      refine lv_iload hx hb d_La_law_442 (lv_at hl 0 rfl) ?_
      refine x_i2l hx hb d_La_law_444 (by omega) ?_
      refine x_lcmp_eq (tgt := 451) hx hb d_La_law_445 d_La_law_446 (by decide) (by omega) (by omega) (fun c_445 => ?_) (fun c_445 => (by exfalso; omega))
      refine lv_goto (tgt := 841) hx hb d_La_law_451 (by decide) ?_
      have hz9 : M.ai ((sc xs (i + 1)) * 16 + (sc xs (i + 2))) = 0 := Decidable.byContradiction (fun h9 => hok.2.1 ((hR.ai hM (i := (sc xs (i + 1))) (j := (sc xs (i + 2))) (by omega) (by omega)).mpr h9))
      refine W.widen (k := n1 + 2) (n := n2 + 12) (by omega) (by omega) ?_
      exact kk (dEnt d (sc xs (i + 1)) (sc xs (i + 2)) (sc xs (i + 3))) (mEnt M (sc xs (i + 1)) (sc xs (i + 2)) (sc xs (i + 3))) pd px pn fd mt ee gd mu eu 0 p2 f f1 f2 f3 f4 f5 z (updI o1 0 (d.ec + 1)) o2 _ _ _ (DI_Ent hd hM hR (by omega) (by omega) (by omega) hz9 (by omega)) (MI_Ent hM (by omega) (by omega) (by omega) hz9 (by omega)) (Rel_Ent hd hM hR (by omega) (by omega) (by omega) hz9 (by omega)) hP hD hS (lv_sub hl [2, 3, 4, 5, 6, 7] rfl)
  · have e9 : ws1 = [(ou, eJ aC 1 o1), (od, eD aC 1 o2), (a 44, .inr (3, [.ref (a 45), .int (iI px), .int (iI pn)])), (a 45, eJ aC 6 pd), (a 46, .inr (4, [.ref (a 47), .long (lI mt), .int (iI ee)])), (a 47, eJ aC 112 fd), (a 48, .inr (4, [.ref (a 49), .long (lI mu), .int (iI eu)])), (a 49, eJ aC 112 gd), (a 0, .inr (5, [.ref (a 1), .ref (a 4), .ref (a 7), .ref (a 10), .ref (a 21), .ref (a 32), .ref (a 38), .ref (a 44), .ref (a 46), .ref (a 48)])), (a 1, .inr (0, [.ref (a 2), .ref (a 3)])), (a 2, eJ aC 1 d.om), (a 3, eI aC 1 d.oe), (a 4, .inr (0, [.ref (a 5), .ref (a 6)])), (a 5, eJ aC 1 d.nm), (a 6, eI aC 1 d.ne), (a 7, .inr (0, [.ref (a 8), .ref (a 9)])), (a 8, eJ aC 16 d.cm), (a 9, eI aC 16 d.ce), (a 10, .inr (1, [.ref (a 11), .ref (a 12), .ref (a 15), .ref (a 18), .int (iI d.rc)])), (a 11, eI aC 12 d.rl), (a 12, .inr (0, [.ref (a 13), .ref (a 14)])), (a 13, eJ aC 12 d.rlm), (a 14, eI aC 12 d.rle), (a 15, .inr (0, [.ref (a 16), .ref (a 17)])), (a 16, eJ aC 12 d.rhm), (a 17, eI aC 12 d.rhe), (a 18, .inr (0, [.ref (a 19), .ref (a 20)])), (a 19, eJ aC 12 d.rvm), (a 20, eI aC 12 d.rve), (a 21, .inr (1, [.ref (a 22), .ref (a 23), .ref (a 26), .ref (a 29), .int (iI d.cc)])), (a 22, eI aC 16 d.cl), (a 23, .inr (0, [.ref (a 24), .ref (a 25)])), (a 24, eJ aC 16 d.clm), (a 25, eI aC 16 d.cle), (a 26, .inr (0, [.ref (a 27), .ref (a 28)])), (a 27, eJ aC 16 d.chm), (a 28, eI aC 16 d.che), (a 29, .inr (0, [.ref (a 30), .ref (a 31)])), (a 30, eJ aC 16 d.cvm), (a 31, eI aC 16 d.cve), (a 32, .inr (2, [.ref (a 33), .ref (a 34), .ref (a 35), .int (iI d.ec)])), (a 33, eI aC 100 d.e1), (a 34, eI aC 100 d.e2), (a 35, .inr (0, [.ref (a 36), .ref (a 37)])), (a 36, eJ aC 100 d.em), (a 37, eI aC 100 d.ee), (a 38, .inr (2, [.ref (a 39), .ref (a 40), .ref (a 41), .int (iI d.pc)])), (a 39, eI aC 60 d.p1), (a 40, eI aC 60 d.p2), (a 41, .inr (0, [.ref (a 42), .ref (a 43)])), (a 42, eJ aC 60 d.pm), (a 43, eI aC 60 d.pe), (b 16, eI aC 440 f), (b 18, eI aC 1200 f1), (b 19, eI aC 1200 f2), (b 20, eI aC 1200 f3), (b 21, eI aC 1200 f4), (b 22, eI aC 1200 f5), (b 0, .inr (6, [.int (iI er), .int (iI M.rw), .int (iI M.cn), .int (iI M.en), .int (iI M.pr), .double (dM M.ko (-3)), .ref (b 1), .ref (b 2), .ref (b 3), .ref (b 4), .ref (b 5), .ref (b 6), .ref (b 7), .ref (b 8), .ref (b 9), .ref (b 10), .ref (b 11), .ref (b 12), .ref (b 13), .ref (b 14), .ref (b 15), .int (iI p2), .ref (b 16), .ref (b 17), .ref (b 18), .ref (b 19), .ref (b 20), .ref (b 21), .ref (b 22)])), (b 17, eI aC 440 z), (b 1, eD aC 192 (dA M.ka c3)), (b 2, eD aC 16 (dA M.kc c3)), (b 3, eD aC 256 (dA M.kq c3)), (b 4, eD aC 16 (dA M.kl c3)), (b 5, eD aC 16 (dA M.kh c3)), (b 6, eD aC 12 (dA M.krl c3)), (b 7, eD aC 12 (dA M.krh c3)), (b 8, eD aC 16 (dA M.kx M.xb)), (b 9, eD aC 12 (dA M.ky M.yb)), (b 10, eZ aC 192 M.ai), (b 11, eZ aC 256 M.qi), (b 12, eZ aC 16 M.li), (b 13, eZ aC 16 M.hi), (b 14, eZ aC 12 M.rli), (b 15, eZ aC 12 M.rhi)] := e9
    subst e9
    change W p l e room_1 s m #[Value.ref sb] below meth c H locs (n1 + 1) (n2 + 6) Q (F0 m 392 ls [.int (iI 1)])
    refine lv_istore (lv' := [(6, .int (iI 1)), (5, .int (iI i)), (4, .ref od), (3, .ref ou), (2, .ref (b 0)), (1, .ref (a 0)), (0, .ref sb)]) hx hb d_La_law_392 hl (by decide) rfl (fun ls hl => ?_)
    refine lv_aload_n hx hb d_La_law_394 rfl (lv_at hl 4 rfl) ?_
    refine lv_aload_n hx hb d_La_law_395 rfl (lv_at hl 6 rfl) ?_
    refine lv_iload hx hb d_La_law_396 (lv_at hl 1 rfl) ?_
    refine lv_iconst (v := iI 1) hx hb d_La_law_398 rfl ?_
    refine x_iadd hx hb d_La_law_399 ?_
    refine x_sld hx hb hXs hbl hbA hS (by omega) (by omega) d_La_law_400 ?_
    have hsc400 := sc_r xs (i + 1)
    refine lv_aload_n hx hb d_La_law_401 rfl (lv_at hl 6 rfl) ?_
    refine lv_iload hx hb d_La_law_402 (lv_at hl 1 rfl) ?_
    refine lv_iconst (v := iI 2) hx hb d_La_law_404 rfl ?_
    refine x_iadd hx hb d_La_law_405 ?_
    refine x_sld hx hb hXs hbl hbA hS (by omega) (by omega) d_La_law_406 ?_
    have hsc406 := sc_r xs (i + 2)
    refine lv_aload_n hx hb d_La_law_407 rfl (lv_at hl 6 rfl) ?_
    refine lv_iload hx hb d_La_law_408 (lv_at hl 1 rfl) ?_
    refine lv_iconst (v := iI 3) hx hb d_La_law_410 rfl ?_
    refine x_iadd hx hb d_La_law_411 ?_
    refine x_sld hx hb hXs hbl hbA hS (by omega) (by omega) d_La_law_412 ?_
    have hsc412 := sc_r xs (i + 3)
    refine x_i2d hx hb d_La_law_413 (by omega) ?_
    refine x_ldc2d hx hb 1 (-3) (by decide +kernel) hown (hts _ wk_La_55) d_La_law_414 ?_
    refine x_dmul1 hx hb d_La_law_417 (by unfold dOk; omega) (by unfold dOk; omega) (by unfold dOk; omega) ?_
    refine x_topd _ _ (sc xs (i + 3)) (-3) (congrArg (dM (sc xs (i + 3))) (show (0 : Int) + (-3) = -3 from rfl)) ?_
    refine x_callVG S (c_Mo_entry_0 l D aC b M hM er p2 (sc xs (i + 1)) (sc xs (i + 2)) (sc xs (i + 3)) (by omega) (by omega) (by omega) (fun z9 => absurd z9 (by omega))) t_La_78 ⟨rfl, rfl, by decide, by decide⟩ hK hN hP hD hS [58, 60, 69] [] rfl (by decide +kernel) (fun v9 w9 hw => by rcases hw with ⟨h1, rfl, rfl⟩ | ⟨h1, h2, rfl, rfl⟩ | ⟨h1, h2, rfl, rfl⟩ <;> exact ⟨rfl, Nat.le_of_ble_eq_true rfl⟩) 0 6 rfl rfl rfl hl.1 rfl (Nat.le_of_ble_eq_true rfl) d_La_law_418 ⟨by show n1 + 1 ≤ 601024; omega, by show n2 + 6 ≤ 7293034; omega⟩ (fun v w1 ws1 H locs e9 hw hP hD hS => ?_)
    rcases hw with ⟨h1, rfl, rfl⟩ | ⟨h1, h2, rfl, rfl⟩ | ⟨h1, h2, rfl, rfl⟩
    · have e9 : ws1 = [(ou, eJ aC 1 o1), (od, eD aC 1 o2), (a 44, .inr (3, [.ref (a 45), .int (iI px), .int (iI pn)])), (a 45, eJ aC 6 pd), (a 46, .inr (4, [.ref (a 47), .long (lI mt), .int (iI ee)])), (a 47, eJ aC 112 fd), (a 48, .inr (4, [.ref (a 49), .long (lI mu), .int (iI eu)])), (a 49, eJ aC 112 gd), (a 0, .inr (5, [.ref (a 1), .ref (a 4), .ref (a 7), .ref (a 10), .ref (a 21), .ref (a 32), .ref (a 38), .ref (a 44), .ref (a 46), .ref (a 48)])), (a 1, .inr (0, [.ref (a 2), .ref (a 3)])), (a 2, eJ aC 1 d.om), (a 3, eI aC 1 d.oe), (a 4, .inr (0, [.ref (a 5), .ref (a 6)])), (a 5, eJ aC 1 d.nm), (a 6, eI aC 1 d.ne), (a 7, .inr (0, [.ref (a 8), .ref (a 9)])), (a 8, eJ aC 16 d.cm), (a 9, eI aC 16 d.ce), (a 10, .inr (1, [.ref (a 11), .ref (a 12), .ref (a 15), .ref (a 18), .int (iI d.rc)])), (a 11, eI aC 12 d.rl), (a 12, .inr (0, [.ref (a 13), .ref (a 14)])), (a 13, eJ aC 12 d.rlm), (a 14, eI aC 12 d.rle), (a 15, .inr (0, [.ref (a 16), .ref (a 17)])), (a 16, eJ aC 12 d.rhm), (a 17, eI aC 12 d.rhe), (a 18, .inr (0, [.ref (a 19), .ref (a 20)])), (a 19, eJ aC 12 d.rvm), (a 20, eI aC 12 d.rve), (a 21, .inr (1, [.ref (a 22), .ref (a 23), .ref (a 26), .ref (a 29), .int (iI d.cc)])), (a 22, eI aC 16 d.cl), (a 23, .inr (0, [.ref (a 24), .ref (a 25)])), (a 24, eJ aC 16 d.clm), (a 25, eI aC 16 d.cle), (a 26, .inr (0, [.ref (a 27), .ref (a 28)])), (a 27, eJ aC 16 d.chm), (a 28, eI aC 16 d.che), (a 29, .inr (0, [.ref (a 30), .ref (a 31)])), (a 30, eJ aC 16 d.cvm), (a 31, eI aC 16 d.cve), (a 32, .inr (2, [.ref (a 33), .ref (a 34), .ref (a 35), .int (iI d.ec)])), (a 33, eI aC 100 d.e1), (a 34, eI aC 100 d.e2), (a 35, .inr (0, [.ref (a 36), .ref (a 37)])), (a 36, eJ aC 100 d.em), (a 37, eI aC 100 d.ee), (a 38, .inr (2, [.ref (a 39), .ref (a 40), .ref (a 41), .int (iI d.pc)])), (a 39, eI aC 60 d.p1), (a 40, eI aC 60 d.p2), (a 41, .inr (0, [.ref (a 42), .ref (a 43)])), (a 42, eJ aC 60 d.pm), (a 43, eI aC 60 d.pe), (b 16, eI aC 440 f), (b 18, eI aC 1200 f1), (b 19, eI aC 1200 f2), (b 20, eI aC 1200 f3), (b 21, eI aC 1200 f4), (b 22, eI aC 1200 f5), (b 0, .inr (6, [.int (iI 1), .int (iI M.rw), .int (iI M.cn), .int (iI M.en), .int (iI M.pr), .double (dM M.ko (-3)), .ref (b 1), .ref (b 2), .ref (b 3), .ref (b 4), .ref (b 5), .ref (b 6), .ref (b 7), .ref (b 8), .ref (b 9), .ref (b 10), .ref (b 11), .ref (b 12), .ref (b 13), .ref (b 14), .ref (b 15), .int (iI p2), .ref (b 16), .ref (b 17), .ref (b 18), .ref (b 19), .ref (b 20), .ref (b 21), .ref (b 22)])), (b 17, eI aC 440 z), (b 1, eD aC 192 (dA M.ka c3)), (b 2, eD aC 16 (dA M.kc c3)), (b 3, eD aC 256 (dA M.kq c3)), (b 4, eD aC 16 (dA M.kl c3)), (b 5, eD aC 16 (dA M.kh c3)), (b 6, eD aC 12 (dA M.krl c3)), (b 7, eD aC 12 (dA M.krh c3)), (b 8, eD aC 16 (dA M.kx M.xb)), (b 9, eD aC 12 (dA M.ky M.yb)), (b 10, eZ aC 192 M.ai), (b 11, eZ aC 256 M.qi), (b 12, eZ aC 16 M.li), (b 13, eZ aC 16 M.hi), (b 14, eZ aC 12 M.rli), (b 15, eZ aC 12 M.rhi)] := e9
      subst e9
      change W p l e room_1 s m #[Value.ref sb] below meth c H locs (n1 + 1) (n2 + 6) Q (F0 m 421 ls [.int (iI 0)])
      refine lv_istore (lv' := [(7, .int (iI 0)), (6, .int (iI 1)), (5, .int (iI i)), (4, .ref od), (3, .ref ou), (2, .ref (b 0)), (1, .ref (a 0)), (0, .ref sb)]) hx hb d_La_law_421 hl (by decide) rfl (fun ls hl => ?_)
      refine lv_aload_n hx hb d_La_law_423 rfl (lv_at hl 5 rfl) ?_
      refine y_callV1 (V := .int (iI 1)) S (c_Mo_thrown l D aC b M 1 p2) t_La_63 (rm_9 (by decide) (by decide)) hK hN hP [58] rfl 0 6 rfl rfl rfl hl.1 rfl (Nat.le_of_ble_eq_true rfl) d_La_law_424 ⟨by show n1 + 1 ≤ 601024; omega, by show n2 + 6 ≤ 7293034; omega⟩ ?_
      refine lv_iload hx hb d_La_law_427 (lv_at hl 1 rfl) ?_
      refine x_icmp_eq (tgt := 434) hx hb d_La_law_429 (by decide) (by omega) (by omega) (fun c_429 => ?_) (fun c_429 => (by exfalso; omega))
      refine lv_iload hx hb d_La_law_434 (lv_at hl 1 rfl) ?_
      refine x_if_ne (tgt := 451) hx hb d_La_law_436 (by decide) (by decide) (fun c_436 => ?_) (fun c_436 => (by exfalso; omega))
      refine lv_goto (tgt := 841) hx hb d_La_law_451 (by decide) ?_
      refine W.widen (k := n1 + 2) (n := n2 + 12) (by omega) (by omega) ?_
      exact kk d M pd px pn fd mt ee gd mu eu 1 p2 f f1 f2 f3 f4 f5 z o1 o2 _ _ _ (hd) (hM) (hR) hP hD hS (lv_sub hl [2, 3, 4, 5, 6, 7] rfl)
    · exfalso; omega
    · exfalso; omega
  · have e9 : ws1 = [(ou, eJ aC 1 o1), (od, eD aC 1 o2), (a 44, .inr (3, [.ref (a 45), .int (iI px), .int (iI pn)])), (a 45, eJ aC 6 pd), (a 46, .inr (4, [.ref (a 47), .long (lI mt), .int (iI ee)])), (a 47, eJ aC 112 fd), (a 48, .inr (4, [.ref (a 49), .long (lI mu), .int (iI eu)])), (a 49, eJ aC 112 gd), (a 0, .inr (5, [.ref (a 1), .ref (a 4), .ref (a 7), .ref (a 10), .ref (a 21), .ref (a 32), .ref (a 38), .ref (a 44), .ref (a 46), .ref (a 48)])), (a 1, .inr (0, [.ref (a 2), .ref (a 3)])), (a 2, eJ aC 1 d.om), (a 3, eI aC 1 d.oe), (a 4, .inr (0, [.ref (a 5), .ref (a 6)])), (a 5, eJ aC 1 d.nm), (a 6, eI aC 1 d.ne), (a 7, .inr (0, [.ref (a 8), .ref (a 9)])), (a 8, eJ aC 16 d.cm), (a 9, eI aC 16 d.ce), (a 10, .inr (1, [.ref (a 11), .ref (a 12), .ref (a 15), .ref (a 18), .int (iI d.rc)])), (a 11, eI aC 12 d.rl), (a 12, .inr (0, [.ref (a 13), .ref (a 14)])), (a 13, eJ aC 12 d.rlm), (a 14, eI aC 12 d.rle), (a 15, .inr (0, [.ref (a 16), .ref (a 17)])), (a 16, eJ aC 12 d.rhm), (a 17, eI aC 12 d.rhe), (a 18, .inr (0, [.ref (a 19), .ref (a 20)])), (a 19, eJ aC 12 d.rvm), (a 20, eI aC 12 d.rve), (a 21, .inr (1, [.ref (a 22), .ref (a 23), .ref (a 26), .ref (a 29), .int (iI d.cc)])), (a 22, eI aC 16 d.cl), (a 23, .inr (0, [.ref (a 24), .ref (a 25)])), (a 24, eJ aC 16 d.clm), (a 25, eI aC 16 d.cle), (a 26, .inr (0, [.ref (a 27), .ref (a 28)])), (a 27, eJ aC 16 d.chm), (a 28, eI aC 16 d.che), (a 29, .inr (0, [.ref (a 30), .ref (a 31)])), (a 30, eJ aC 16 d.cvm), (a 31, eI aC 16 d.cve), (a 32, .inr (2, [.ref (a 33), .ref (a 34), .ref (a 35), .int (iI d.ec)])), (a 33, eI aC 100 d.e1), (a 34, eI aC 100 d.e2), (a 35, .inr (0, [.ref (a 36), .ref (a 37)])), (a 36, eJ aC 100 d.em), (a 37, eI aC 100 d.ee), (a 38, .inr (2, [.ref (a 39), .ref (a 40), .ref (a 41), .int (iI d.pc)])), (a 39, eI aC 60 d.p1), (a 40, eI aC 60 d.p2), (a 41, .inr (0, [.ref (a 42), .ref (a 43)])), (a 42, eJ aC 60 d.pm), (a 43, eI aC 60 d.pe), (b 16, eI aC 440 f), (b 18, eI aC 1200 f1), (b 19, eI aC 1200 f2), (b 20, eI aC 1200 f3), (b 21, eI aC 1200 f4), (b 22, eI aC 1200 f5), (b 0, .inr (6, [.int (iI er), .int (iI M.rw), .int (iI M.cn), .int (iI M.en), .int (iI M.pr), .double (dM M.ko (-3)), .ref (b 1), .ref (b 2), .ref (b 3), .ref (b 4), .ref (b 5), .ref (b 6), .ref (b 7), .ref (b 8), .ref (b 9), .ref (b 10), .ref (b 11), .ref (b 12), .ref (b 13), .ref (b 14), .ref (b 15), .int (iI p2), .ref (b 16), .ref (b 17), .ref (b 18), .ref (b 19), .ref (b 20), .ref (b 21), .ref (b 22)])), (b 17, eI aC 440 z), (b 1, eD aC 192 (dA M.ka c3)), (b 2, eD aC 16 (dA M.kc c3)), (b 3, eD aC 256 (dA M.kq c3)), (b 4, eD aC 16 (dA M.kl c3)), (b 5, eD aC 16 (dA M.kh c3)), (b 6, eD aC 12 (dA M.krl c3)), (b 7, eD aC 12 (dA M.krh c3)), (b 8, eD aC 16 (dA M.kx M.xb)), (b 9, eD aC 12 (dA M.ky M.yb)), (b 10, eZ aC 192 M.ai), (b 11, eZ aC 256 M.qi), (b 12, eZ aC 16 M.li), (b 13, eZ aC 16 M.hi), (b 14, eZ aC 12 M.rli), (b 15, eZ aC 12 M.rhi)] := e9
    subst e9
    change W p l e room_1 s m #[Value.ref sb] below meth c H locs (n1 + 1) (n2 + 6) Q (F0 m 392 ls [.int (iI 2)])
    refine lv_istore (lv' := [(6, .int (iI 2)), (5, .int (iI i)), (4, .ref od), (3, .ref ou), (2, .ref (b 0)), (1, .ref (a 0)), (0, .ref sb)]) hx hb d_La_law_392 hl (by decide) rfl (fun ls hl => ?_)
    refine lv_aload_n hx hb d_La_law_394 rfl (lv_at hl 4 rfl) ?_
    refine lv_aload_n hx hb d_La_law_395 rfl (lv_at hl 6 rfl) ?_
    refine lv_iload hx hb d_La_law_396 (lv_at hl 1 rfl) ?_
    refine lv_iconst (v := iI 1) hx hb d_La_law_398 rfl ?_
    refine x_iadd hx hb d_La_law_399 ?_
    refine x_sld hx hb hXs hbl hbA hS (by omega) (by omega) d_La_law_400 ?_
    have hsc400 := sc_r xs (i + 1)
    refine lv_aload_n hx hb d_La_law_401 rfl (lv_at hl 6 rfl) ?_
    refine lv_iload hx hb d_La_law_402 (lv_at hl 1 rfl) ?_
    refine lv_iconst (v := iI 2) hx hb d_La_law_404 rfl ?_
    refine x_iadd hx hb d_La_law_405 ?_
    refine x_sld hx hb hXs hbl hbA hS (by omega) (by omega) d_La_law_406 ?_
    have hsc406 := sc_r xs (i + 2)
    refine lv_aload_n hx hb d_La_law_407 rfl (lv_at hl 6 rfl) ?_
    refine lv_iload hx hb d_La_law_408 (lv_at hl 1 rfl) ?_
    refine lv_iconst (v := iI 3) hx hb d_La_law_410 rfl ?_
    refine x_iadd hx hb d_La_law_411 ?_
    refine x_sld hx hb hXs hbl hbA hS (by omega) (by omega) d_La_law_412 ?_
    have hsc412 := sc_r xs (i + 3)
    refine x_i2d hx hb d_La_law_413 (by omega) ?_
    refine x_ldc2d hx hb 1 (-3) (by decide +kernel) hown (hts _ wk_La_55) d_La_law_414 ?_
    refine x_dmul1 hx hb d_La_law_417 (by unfold dOk; omega) (by unfold dOk; omega) (by unfold dOk; omega) ?_
    refine x_topd _ _ (sc xs (i + 3)) (-3) (congrArg (dM (sc xs (i + 3))) (show (0 : Int) + (-3) = -3 from rfl)) ?_
    refine x_callVG S (c_Mo_entry_1 l D aC b M hM er p2 (sc xs (i + 1)) (sc xs (i + 2)) (sc xs (i + 3)) (by omega) (by omega) (by omega) (fun z9 => by have y9 := (hR.ai hM z9.1 z9.2).mp hok.2; have w9 := hM.ai ((sc xs (i + 1)) * 16 + (sc xs (i + 2))) (by omega) (by omega); omega)) t_La_78 ⟨rfl, rfl, by decide, by decide⟩ hK hN hP hD hS [58] [60, 69] rfl (by decide +kernel) (fun v9 w9 hw => by rcases hw with ⟨h1, rfl, rfl⟩ | ⟨h1, rfl, rfl⟩ <;> exact ⟨rfl, Nat.le_of_ble_eq_true rfl⟩) 0 6 rfl rfl rfl hl.1 rfl (Nat.le_of_ble_eq_true rfl) d_La_law_418 ⟨by show n1 + 1 ≤ 601024; omega, by show n2 + 6 ≤ 7293034; omega⟩ (fun v w1 ws1 H locs e9 hw hP hD hS => ?_)
    rcases hw with ⟨h1, rfl, rfl⟩ | ⟨h1, rfl, rfl⟩
    · exfalso; omega
    · have e9 : ws1 = [(ou, eJ aC 1 o1), (od, eD aC 1 o2), (a 44, .inr (3, [.ref (a 45), .int (iI px), .int (iI pn)])), (a 45, eJ aC 6 pd), (a 46, .inr (4, [.ref (a 47), .long (lI mt), .int (iI ee)])), (a 47, eJ aC 112 fd), (a 48, .inr (4, [.ref (a 49), .long (lI mu), .int (iI eu)])), (a 49, eJ aC 112 gd), (a 0, .inr (5, [.ref (a 1), .ref (a 4), .ref (a 7), .ref (a 10), .ref (a 21), .ref (a 32), .ref (a 38), .ref (a 44), .ref (a 46), .ref (a 48)])), (a 1, .inr (0, [.ref (a 2), .ref (a 3)])), (a 2, eJ aC 1 d.om), (a 3, eI aC 1 d.oe), (a 4, .inr (0, [.ref (a 5), .ref (a 6)])), (a 5, eJ aC 1 d.nm), (a 6, eI aC 1 d.ne), (a 7, .inr (0, [.ref (a 8), .ref (a 9)])), (a 8, eJ aC 16 d.cm), (a 9, eI aC 16 d.ce), (a 10, .inr (1, [.ref (a 11), .ref (a 12), .ref (a 15), .ref (a 18), .int (iI d.rc)])), (a 11, eI aC 12 d.rl), (a 12, .inr (0, [.ref (a 13), .ref (a 14)])), (a 13, eJ aC 12 d.rlm), (a 14, eI aC 12 d.rle), (a 15, .inr (0, [.ref (a 16), .ref (a 17)])), (a 16, eJ aC 12 d.rhm), (a 17, eI aC 12 d.rhe), (a 18, .inr (0, [.ref (a 19), .ref (a 20)])), (a 19, eJ aC 12 d.rvm), (a 20, eI aC 12 d.rve), (a 21, .inr (1, [.ref (a 22), .ref (a 23), .ref (a 26), .ref (a 29), .int (iI d.cc)])), (a 22, eI aC 16 d.cl), (a 23, .inr (0, [.ref (a 24), .ref (a 25)])), (a 24, eJ aC 16 d.clm), (a 25, eI aC 16 d.cle), (a 26, .inr (0, [.ref (a 27), .ref (a 28)])), (a 27, eJ aC 16 d.chm), (a 28, eI aC 16 d.che), (a 29, .inr (0, [.ref (a 30), .ref (a 31)])), (a 30, eJ aC 16 d.cvm), (a 31, eI aC 16 d.cve), (a 32, .inr (2, [.ref (a 33), .ref (a 34), .ref (a 35), .int (iI d.ec)])), (a 33, eI aC 100 d.e1), (a 34, eI aC 100 d.e2), (a 35, .inr (0, [.ref (a 36), .ref (a 37)])), (a 36, eJ aC 100 d.em), (a 37, eI aC 100 d.ee), (a 38, .inr (2, [.ref (a 39), .ref (a 40), .ref (a 41), .int (iI d.pc)])), (a 39, eI aC 60 d.p1), (a 40, eI aC 60 d.p2), (a 41, .inr (0, [.ref (a 42), .ref (a 43)])), (a 42, eJ aC 60 d.pm), (a 43, eI aC 60 d.pe), (b 16, eI aC 440 f), (b 18, eI aC 1200 f1), (b 19, eI aC 1200 f2), (b 20, eI aC 1200 f3), (b 21, eI aC 1200 f4), (b 22, eI aC 1200 f5), (b 0, .inr (6, [.int (iI 2), .int (iI M.rw), .int (iI M.cn), .int (iI M.en), .int (iI M.pr), .double (dM M.ko (-3)), .ref (b 1), .ref (b 2), .ref (b 3), .ref (b 4), .ref (b 5), .ref (b 6), .ref (b 7), .ref (b 8), .ref (b 9), .ref (b 10), .ref (b 11), .ref (b 12), .ref (b 13), .ref (b 14), .ref (b 15), .int (iI p2), .ref (b 16), .ref (b 17), .ref (b 18), .ref (b 19), .ref (b 20), .ref (b 21), .ref (b 22)])), (b 17, eI aC 440 z), (b 1, eD aC 192 (dA M.ka c3)), (b 2, eD aC 16 (dA M.kc c3)), (b 3, eD aC 256 (dA M.kq c3)), (b 4, eD aC 16 (dA M.kl c3)), (b 5, eD aC 16 (dA M.kh c3)), (b 6, eD aC 12 (dA M.krl c3)), (b 7, eD aC 12 (dA M.krh c3)), (b 8, eD aC 16 (dA M.kx M.xb)), (b 9, eD aC 12 (dA M.ky M.yb)), (b 10, eZ aC 192 M.ai), (b 11, eZ aC 256 M.qi), (b 12, eZ aC 16 M.li), (b 13, eZ aC 16 M.hi), (b 14, eZ aC 12 M.rli), (b 15, eZ aC 12 M.rhi)] := e9
      subst e9
      change W p l e room_1 s m #[Value.ref sb] below meth c H locs (n1 + 1) (n2 + 6) Q (F0 m 421 ls [.int (iI 0)])
      refine lv_istore (lv' := [(7, .int (iI 0)), (6, .int (iI 2)), (5, .int (iI i)), (4, .ref od), (3, .ref ou), (2, .ref (b 0)), (1, .ref (a 0)), (0, .ref sb)]) hx hb d_La_law_421 hl (by decide) rfl (fun ls hl => ?_)
      refine lv_aload_n hx hb d_La_law_423 rfl (lv_at hl 5 rfl) ?_
      refine y_callV1 (V := .int (iI 2)) S (c_Mo_thrown l D aC b M 2 p2) t_La_63 (rm_9 (by decide) (by decide)) hK hN hP [58] rfl 0 6 rfl rfl rfl hl.1 rfl (Nat.le_of_ble_eq_true rfl) d_La_law_424 ⟨by show n1 + 1 ≤ 601024; omega, by show n2 + 6 ≤ 7293034; omega⟩ ?_
      refine lv_iload hx hb d_La_law_427 (lv_at hl 1 rfl) ?_
      refine x_icmp_eq (tgt := 434) hx hb d_La_law_429 (by decide) (by omega) (by omega) (fun c_429 => ?_) (fun c_429 => (by exfalso; omega))
      refine lv_iload hx hb d_La_law_434 (lv_at hl 1 rfl) ?_
      refine x_if_ne (tgt := 451) hx hb d_La_law_436 (by decide) (by decide) (fun c_436 => ?_) (fun c_436 => (by exfalso; omega))
      refine lv_goto (tgt := 841) hx hb d_La_law_451 (by decide) ?_
      refine W.widen (k := n1 + 2) (n := n2 + 12) (by omega) (by omega) ?_
      exact kk d M pd px pn fd mt ee gd mu eu 2 p2 f f1 f2 f3 f4 f5 z o1 o2 _ _ _ (hd) (hM) (hR) hP hD hS (lv_sub hl [2, 3, 4, 5, 6, 7] rfl)
  · have e9 : ws1 = [(ou, eJ aC 1 o1), (od, eD aC 1 o2), (a 44, .inr (3, [.ref (a 45), .int (iI px), .int (iI pn)])), (a 45, eJ aC 6 pd), (a 46, .inr (4, [.ref (a 47), .long (lI mt), .int (iI ee)])), (a 47, eJ aC 112 fd), (a 48, .inr (4, [.ref (a 49), .long (lI mu), .int (iI eu)])), (a 49, eJ aC 112 gd), (a 0, .inr (5, [.ref (a 1), .ref (a 4), .ref (a 7), .ref (a 10), .ref (a 21), .ref (a 32), .ref (a 38), .ref (a 44), .ref (a 46), .ref (a 48)])), (a 1, .inr (0, [.ref (a 2), .ref (a 3)])), (a 2, eJ aC 1 d.om), (a 3, eI aC 1 d.oe), (a 4, .inr (0, [.ref (a 5), .ref (a 6)])), (a 5, eJ aC 1 d.nm), (a 6, eI aC 1 d.ne), (a 7, .inr (0, [.ref (a 8), .ref (a 9)])), (a 8, eJ aC 16 d.cm), (a 9, eI aC 16 d.ce), (a 10, .inr (1, [.ref (a 11), .ref (a 12), .ref (a 15), .ref (a 18), .int (iI d.rc)])), (a 11, eI aC 12 d.rl), (a 12, .inr (0, [.ref (a 13), .ref (a 14)])), (a 13, eJ aC 12 d.rlm), (a 14, eI aC 12 d.rle), (a 15, .inr (0, [.ref (a 16), .ref (a 17)])), (a 16, eJ aC 12 d.rhm), (a 17, eI aC 12 d.rhe), (a 18, .inr (0, [.ref (a 19), .ref (a 20)])), (a 19, eJ aC 12 d.rvm), (a 20, eI aC 12 d.rve), (a 21, .inr (1, [.ref (a 22), .ref (a 23), .ref (a 26), .ref (a 29), .int (iI d.cc)])), (a 22, eI aC 16 d.cl), (a 23, .inr (0, [.ref (a 24), .ref (a 25)])), (a 24, eJ aC 16 d.clm), (a 25, eI aC 16 d.cle), (a 26, .inr (0, [.ref (a 27), .ref (a 28)])), (a 27, eJ aC 16 d.chm), (a 28, eI aC 16 d.che), (a 29, .inr (0, [.ref (a 30), .ref (a 31)])), (a 30, eJ aC 16 d.cvm), (a 31, eI aC 16 d.cve), (a 32, .inr (2, [.ref (a 33), .ref (a 34), .ref (a 35), .int (iI d.ec)])), (a 33, eI aC 100 d.e1), (a 34, eI aC 100 d.e2), (a 35, .inr (0, [.ref (a 36), .ref (a 37)])), (a 36, eJ aC 100 d.em), (a 37, eI aC 100 d.ee), (a 38, .inr (2, [.ref (a 39), .ref (a 40), .ref (a 41), .int (iI d.pc)])), (a 39, eI aC 60 d.p1), (a 40, eI aC 60 d.p2), (a 41, .inr (0, [.ref (a 42), .ref (a 43)])), (a 42, eJ aC 60 d.pm), (a 43, eI aC 60 d.pe), (b 16, eI aC 440 f), (b 18, eI aC 1200 f1), (b 19, eI aC 1200 f2), (b 20, eI aC 1200 f3), (b 21, eI aC 1200 f4), (b 22, eI aC 1200 f5), (b 0, .inr (6, [.int (iI er), .int (iI M.rw), .int (iI M.cn), .int (iI M.en), .int (iI M.pr), .double (dM M.ko (-3)), .ref (b 1), .ref (b 2), .ref (b 3), .ref (b 4), .ref (b 5), .ref (b 6), .ref (b 7), .ref (b 8), .ref (b 9), .ref (b 10), .ref (b 11), .ref (b 12), .ref (b 13), .ref (b 14), .ref (b 15), .int (iI p2), .ref (b 16), .ref (b 17), .ref (b 18), .ref (b 19), .ref (b 20), .ref (b 21), .ref (b 22)])), (b 17, eI aC 440 z), (b 1, eD aC 192 (dA M.ka c3)), (b 2, eD aC 16 (dA M.kc c3)), (b 3, eD aC 256 (dA M.kq c3)), (b 4, eD aC 16 (dA M.kl c3)), (b 5, eD aC 16 (dA M.kh c3)), (b 6, eD aC 12 (dA M.krl c3)), (b 7, eD aC 12 (dA M.krh c3)), (b 8, eD aC 16 (dA M.kx M.xb)), (b 9, eD aC 12 (dA M.ky M.yb)), (b 10, eZ aC 192 M.ai), (b 11, eZ aC 256 M.qi), (b 12, eZ aC 16 M.li), (b 13, eZ aC 16 M.hi), (b 14, eZ aC 12 M.rli), (b 15, eZ aC 12 M.rhi)] := e9
    subst e9
    change W p l e room_1 s m #[Value.ref sb] below meth c H locs (n1 + 1) (n2 + 6) Q (F0 m 392 ls [.int (iI 3)])
    refine lv_istore (lv' := [(6, .int (iI 3)), (5, .int (iI i)), (4, .ref od), (3, .ref ou), (2, .ref (b 0)), (1, .ref (a 0)), (0, .ref sb)]) hx hb d_La_law_392 hl (by decide) rfl (fun ls hl => ?_)
    refine lv_aload_n hx hb d_La_law_394 rfl (lv_at hl 4 rfl) ?_
    refine lv_aload_n hx hb d_La_law_395 rfl (lv_at hl 6 rfl) ?_
    refine lv_iload hx hb d_La_law_396 (lv_at hl 1 rfl) ?_
    refine lv_iconst (v := iI 1) hx hb d_La_law_398 rfl ?_
    refine x_iadd hx hb d_La_law_399 ?_
    refine x_sld hx hb hXs hbl hbA hS (by omega) (by omega) d_La_law_400 ?_
    have hsc400 := sc_r xs (i + 1)
    refine lv_aload_n hx hb d_La_law_401 rfl (lv_at hl 6 rfl) ?_
    refine lv_iload hx hb d_La_law_402 (lv_at hl 1 rfl) ?_
    refine lv_iconst (v := iI 2) hx hb d_La_law_404 rfl ?_
    refine x_iadd hx hb d_La_law_405 ?_
    refine x_sld hx hb hXs hbl hbA hS (by omega) (by omega) d_La_law_406 ?_
    have hsc406 := sc_r xs (i + 2)
    refine lv_aload_n hx hb d_La_law_407 rfl (lv_at hl 6 rfl) ?_
    refine lv_iload hx hb d_La_law_408 (lv_at hl 1 rfl) ?_
    refine lv_iconst (v := iI 3) hx hb d_La_law_410 rfl ?_
    refine x_iadd hx hb d_La_law_411 ?_
    refine x_sld hx hb hXs hbl hbA hS (by omega) (by omega) d_La_law_412 ?_
    have hsc412 := sc_r xs (i + 3)
    refine x_i2d hx hb d_La_law_413 (by omega) ?_
    refine x_ldc2d hx hb 1 (-3) (by decide +kernel) hown (hts _ wk_La_55) d_La_law_414 ?_
    refine x_dmul1 hx hb d_La_law_417 (by unfold dOk; omega) (by unfold dOk; omega) (by unfold dOk; omega) ?_
    refine x_topd _ _ (sc xs (i + 3)) (-3) (congrArg (dM (sc xs (i + 3))) (show (0 : Int) + (-3) = -3 from rfl)) ?_
    refine x_callVG S (c_Mo_entry_0 l D aC b M hM er p2 (sc xs (i + 1)) (sc xs (i + 2)) (sc xs (i + 3)) (by omega) (by omega) (by omega) (fun z9 => Decidable.byContradiction (fun h9 => hok.2.1 ((hR.ai hM z9.1 z9.2).mpr h9)))) t_La_78 ⟨rfl, rfl, by decide, by decide⟩ hK hN hP hD hS [58, 60, 69] [] rfl (by decide +kernel) (fun v9 w9 hw => by rcases hw with ⟨h1, rfl, rfl⟩ | ⟨h1, h2, rfl, rfl⟩ | ⟨h1, h2, rfl, rfl⟩ <;> exact ⟨rfl, Nat.le_of_ble_eq_true rfl⟩) 0 6 rfl rfl rfl hl.1 rfl (Nat.le_of_ble_eq_true rfl) d_La_law_418 ⟨by show n1 + 1 ≤ 601024; omega, by show n2 + 6 ≤ 7293034; omega⟩ (fun v w1 ws1 H locs e9 hw hP hD hS => ?_)
    rcases hw with ⟨h1, rfl, rfl⟩ | ⟨h1, h2, rfl, rfl⟩ | ⟨h1, h2, rfl, rfl⟩
    · exfalso; omega
    · have e9 : ws1 = [(ou, eJ aC 1 o1), (od, eD aC 1 o2), (a 44, .inr (3, [.ref (a 45), .int (iI px), .int (iI pn)])), (a 45, eJ aC 6 pd), (a 46, .inr (4, [.ref (a 47), .long (lI mt), .int (iI ee)])), (a 47, eJ aC 112 fd), (a 48, .inr (4, [.ref (a 49), .long (lI mu), .int (iI eu)])), (a 49, eJ aC 112 gd), (a 0, .inr (5, [.ref (a 1), .ref (a 4), .ref (a 7), .ref (a 10), .ref (a 21), .ref (a 32), .ref (a 38), .ref (a 44), .ref (a 46), .ref (a 48)])), (a 1, .inr (0, [.ref (a 2), .ref (a 3)])), (a 2, eJ aC 1 d.om), (a 3, eI aC 1 d.oe), (a 4, .inr (0, [.ref (a 5), .ref (a 6)])), (a 5, eJ aC 1 d.nm), (a 6, eI aC 1 d.ne), (a 7, .inr (0, [.ref (a 8), .ref (a 9)])), (a 8, eJ aC 16 d.cm), (a 9, eI aC 16 d.ce), (a 10, .inr (1, [.ref (a 11), .ref (a 12), .ref (a 15), .ref (a 18), .int (iI d.rc)])), (a 11, eI aC 12 d.rl), (a 12, .inr (0, [.ref (a 13), .ref (a 14)])), (a 13, eJ aC 12 d.rlm), (a 14, eI aC 12 d.rle), (a 15, .inr (0, [.ref (a 16), .ref (a 17)])), (a 16, eJ aC 12 d.rhm), (a 17, eI aC 12 d.rhe), (a 18, .inr (0, [.ref (a 19), .ref (a 20)])), (a 19, eJ aC 12 d.rvm), (a 20, eI aC 12 d.rve), (a 21, .inr (1, [.ref (a 22), .ref (a 23), .ref (a 26), .ref (a 29), .int (iI d.cc)])), (a 22, eI aC 16 d.cl), (a 23, .inr (0, [.ref (a 24), .ref (a 25)])), (a 24, eJ aC 16 d.clm), (a 25, eI aC 16 d.cle), (a 26, .inr (0, [.ref (a 27), .ref (a 28)])), (a 27, eJ aC 16 d.chm), (a 28, eI aC 16 d.che), (a 29, .inr (0, [.ref (a 30), .ref (a 31)])), (a 30, eJ aC 16 d.cvm), (a 31, eI aC 16 d.cve), (a 32, .inr (2, [.ref (a 33), .ref (a 34), .ref (a 35), .int (iI d.ec)])), (a 33, eI aC 100 d.e1), (a 34, eI aC 100 d.e2), (a 35, .inr (0, [.ref (a 36), .ref (a 37)])), (a 36, eJ aC 100 d.em), (a 37, eI aC 100 d.ee), (a 38, .inr (2, [.ref (a 39), .ref (a 40), .ref (a 41), .int (iI d.pc)])), (a 39, eI aC 60 d.p1), (a 40, eI aC 60 d.p2), (a 41, .inr (0, [.ref (a 42), .ref (a 43)])), (a 42, eJ aC 60 d.pm), (a 43, eI aC 60 d.pe), (b 16, eI aC 440 f), (b 18, eI aC 1200 f1), (b 19, eI aC 1200 f2), (b 20, eI aC 1200 f3), (b 21, eI aC 1200 f4), (b 22, eI aC 1200 f5), (b 0, .inr (6, [.int (iI 3), .int (iI M.rw), .int (iI M.cn), .int (iI M.en), .int (iI M.pr), .double (dM M.ko (-3)), .ref (b 1), .ref (b 2), .ref (b 3), .ref (b 4), .ref (b 5), .ref (b 6), .ref (b 7), .ref (b 8), .ref (b 9), .ref (b 10), .ref (b 11), .ref (b 12), .ref (b 13), .ref (b 14), .ref (b 15), .int (iI p2), .ref (b 16), .ref (b 17), .ref (b 18), .ref (b 19), .ref (b 20), .ref (b 21), .ref (b 22)])), (b 17, eI aC 440 z), (b 1, eD aC 192 (dA M.ka c3)), (b 2, eD aC 16 (dA M.kc c3)), (b 3, eD aC 256 (dA M.kq c3)), (b 4, eD aC 16 (dA M.kl c3)), (b 5, eD aC 16 (dA M.kh c3)), (b 6, eD aC 12 (dA M.krl c3)), (b 7, eD aC 12 (dA M.krh c3)), (b 8, eD aC 16 (dA M.kx M.xb)), (b 9, eD aC 12 (dA M.ky M.yb)), (b 10, eZ aC 192 M.ai), (b 11, eZ aC 256 M.qi), (b 12, eZ aC 16 M.li), (b 13, eZ aC 16 M.hi), (b 14, eZ aC 12 M.rli), (b 15, eZ aC 12 M.rhi)] := e9
      subst e9
      change W p l e room_1 s m #[Value.ref sb] below meth c H locs (n1 + 1) (n2 + 6) Q (F0 m 421 ls [.int (iI 0)])
      refine lv_istore (lv' := [(7, .int (iI 0)), (6, .int (iI 3)), (5, .int (iI i)), (4, .ref od), (3, .ref ou), (2, .ref (b 0)), (1, .ref (a 0)), (0, .ref sb)]) hx hb d_La_law_421 hl (by decide) rfl (fun ls hl => ?_)
      refine lv_aload_n hx hb d_La_law_423 rfl (lv_at hl 5 rfl) ?_
      refine y_callV1 (V := .int (iI 3)) S (c_Mo_thrown l D aC b M 3 p2) t_La_63 (rm_9 (by decide) (by decide)) hK hN hP [58] rfl 0 6 rfl rfl rfl hl.1 rfl (Nat.le_of_ble_eq_true rfl) d_La_law_424 ⟨by show n1 + 1 ≤ 601024; omega, by show n2 + 6 ≤ 7293034; omega⟩ ?_
      refine lv_iload hx hb d_La_law_427 (lv_at hl 1 rfl) ?_
      refine x_icmp_eq (tgt := 434) hx hb d_La_law_429 (by decide) (by omega) (by omega) (fun c_429 => ?_) (fun c_429 => (by exfalso; omega))
      refine lv_iload hx hb d_La_law_434 (lv_at hl 1 rfl) ?_
      refine x_if_ne (tgt := 451) hx hb d_La_law_436 (by decide) (by decide) (fun c_436 => ?_) (fun c_436 => (by exfalso; omega))
      refine lv_goto (tgt := 841) hx hb d_La_law_451 (by decide) ?_
      refine W.widen (k := n1 + 2) (n := n2 + 12) (by omega) (by omega) ?_
      exact kk d M pd px pn fd mt ee gd mu eu 3 p2 f f1 f2 f3 f4 f5 z o1 o2 _ _ _ (hd) (hM) (hR) hP hD hS (lv_sub hl [2, 3, 4, 5, 6, 7] rfl)
    · exfalso; omega
set_option maxHeartbeats 8000000 in
set_option maxRecDepth 100000 in
theorem law_4 {p : Program} {l : Launch} {e : Env} {s : State} {m : MethodId} {below : List Frame} {meth : Method} {c : Code} {D : va_G} {aC : Nat → ClassId} {sa : Nat → Nat} {a b : Nat → Nat} {ou od sb L : Nat} {xs : Nat → Int32} {Q : State → Prop} (C0 : LC p l s m meth c D aC sa sb L xs) {i : Int} {n1 n2 : Nat} (hi : 0 ≤ i ∧ i + 5 ≤ (L : Int)) (hn1 : n1 + 2 ≤ 601024) (hn2 : n2 + 12 ≤ 7293034) (kk : LK p l e s m below meth c D aC a b ou od sb Q i 841 (n1 + 2) (n2 + 12)) : LK p l e s m below meth c D aC a b ou od sb Q i 454 n1 n2 := by
  intro d M pd px pn fd mt ee gd mu eu er p2 f f1 f2 f3 f4 f5 z o1 o2 H locs ls hd hM hR hP hD hS hl
  obtain ⟨S, hXs, hbl, hL9, hst, hK, hN, hX, hNC⟩ := C0
  obtain ⟨hx, hb, hml, hown, hts⟩ := id S
  have hbA : ¬ (fun q : Nat => s.heap.size ≤ q) sb := Nat.not_le.mpr hbl
  have hn := hR.n
  have hrw := hM.rw
  have hcn := hM.cn
  have hen := hM.en
  have hpr := hM.pr
  refine lv_aload_n hx hb d_La_law_454 rfl (lv_at hl 4 rfl) ?_
  refine lv_aload_n hx hb d_La_law_455 rfl (lv_at hl 5 rfl) ?_
  refine lv_iload hx hb d_La_law_456 (lv_at hl 0 rfl) ?_
  refine lv_iconst (v := iI 1) hx hb d_La_law_458 rfl ?_
  refine x_iadd hx hb d_La_law_459 ?_
  refine x_sld hx hb hXs hbl hbA hS (by omega) (by omega) d_La_law_460 ?_
  have hsc460 := sc_r xs (i + 1)
  refine lv_aload_n hx hb d_La_law_461 rfl (lv_at hl 5 rfl) ?_
  refine lv_iload hx hb d_La_law_462 (lv_at hl 0 rfl) ?_
  refine lv_iconst (v := iI 2) hx hb d_La_law_464 rfl ?_
  refine x_iadd hx hb d_La_law_465 ?_
  refine x_sld hx hb hXs hbl hbA hS (by omega) (by omega) d_La_law_466 ?_
  have hsc466 := sc_r xs (i + 2)
  refine lv_aload_n hx hb d_La_law_467 rfl (lv_at hl 5 rfl) ?_
  refine lv_iload hx hb d_La_law_468 (lv_at hl 0 rfl) ?_
  refine lv_iconst (v := iI 3) hx hb d_La_law_470 rfl ?_
  refine x_iadd hx hb d_La_law_471 ?_
  refine x_sld hx hb hXs hbl hbA hS (by omega) (by omega) d_La_law_472 ?_
  have hsc472 := sc_r xs (i + 3)
  refine x_i2d hx hb d_La_law_473 (by omega) ?_
  refine x_ldc2d hx hb 1 (-3) (by decide +kernel) hown (hts _ wk_La_55) d_La_law_474 ?_
  refine x_dmul1 hx hb d_La_law_477 (by unfold dOk; omega) (by unfold dOk; omega) (by unfold dOk; omega) ?_
  refine x_topd _ _ (sc xs (i + 3)) (-3) (congrArg (dM (sc xs (i + 3))) (show (0 : Int) + (-3) = -3 from rfl)) ?_
  refine lv_aload_n hx hb d_La_law_478 rfl (lv_at hl 2 rfl) ?_
  refine x_callW S (c_La_pair l D aC sa hst a d hd (sc xs (i + 1)) (sc xs (i + 2)) (by omega) (by omega) (sc xs (i + 3)) (by omega) ou o1) tl_79 ⟨rfl, rfl, by decide, by decide⟩ hK hN hX hNC hP hD hS [0, 8, 29, 30, 46, 47, 48, 49, 50, 51] [] rfl (by decide +kernel) (fun v9 w9 hw => by rcases hw with ⟨rfl, hok, rfl⟩ | ⟨rfl, hok, rfl⟩ | ⟨rfl, hok, rfl⟩ | ⟨rfl, hok, rfl⟩ <;> exact ⟨rfl, Nat.le_of_ble_eq_true rfl⟩) rfl hl.1 rfl (Nat.le_of_ble_eq_true rfl) d_La_law_479 ⟨by show n1 + 1 ≤ 601024; omega, by show n2 + 6 ≤ 7293034; omega⟩ (fun v w1 ws1 H locs e9 hw hP hD hS => ?_)
  rcases hw with ⟨rfl, hok, rfl⟩ | ⟨rfl, hok, rfl⟩ | ⟨rfl, hok, rfl⟩ | ⟨rfl, hok, rfl⟩
  · have e9 : ws1 = [(ou, eJ aC 1 (updI o1 0 (d.pc + 1))), (od, eD aC 1 o2), (a 44, .inr (3, [.ref (a 45), .int (iI px), .int (iI pn)])), (a 45, eJ aC 6 pd), (a 46, .inr (4, [.ref (a 47), .long (lI mt), .int (iI ee)])), (a 47, eJ aC 112 fd), (a 48, .inr (4, [.ref (a 49), .long (lI mu), .int (iI eu)])), (a 49, eJ aC 112 gd), (a 0, .inr (5, [.ref (a 1), .ref (a 4), .ref (a 7), .ref (a 10), .ref (a 21), .ref (a 32), .ref (a 38), .ref (a 44), .ref (a 46), .ref (a 48)])), (a 1, .inr (0, [.ref (a 2), .ref (a 3)])), (a 2, eJ aC 1 d.om), (a 3, eI aC 1 d.oe), (a 4, .inr (0, [.ref (a 5), .ref (a 6)])), (a 5, eJ aC 1 d.nm), (a 6, eI aC 1 d.ne), (a 7, .inr (0, [.ref (a 8), .ref (a 9)])), (a 8, eJ aC 16 d.cm), (a 9, eI aC 16 d.ce), (a 10, .inr (1, [.ref (a 11), .ref (a 12), .ref (a 15), .ref (a 18), .int (iI d.rc)])), (a 11, eI aC 12 d.rl), (a 12, .inr (0, [.ref (a 13), .ref (a 14)])), (a 13, eJ aC 12 d.rlm), (a 14, eI aC 12 d.rle), (a 15, .inr (0, [.ref (a 16), .ref (a 17)])), (a 16, eJ aC 12 d.rhm), (a 17, eI aC 12 d.rhe), (a 18, .inr (0, [.ref (a 19), .ref (a 20)])), (a 19, eJ aC 12 d.rvm), (a 20, eI aC 12 d.rve), (a 21, .inr (1, [.ref (a 22), .ref (a 23), .ref (a 26), .ref (a 29), .int (iI d.cc)])), (a 22, eI aC 16 d.cl), (a 23, .inr (0, [.ref (a 24), .ref (a 25)])), (a 24, eJ aC 16 d.clm), (a 25, eI aC 16 d.cle), (a 26, .inr (0, [.ref (a 27), .ref (a 28)])), (a 27, eJ aC 16 d.chm), (a 28, eI aC 16 d.che), (a 29, .inr (0, [.ref (a 30), .ref (a 31)])), (a 30, eJ aC 16 d.cvm), (a 31, eI aC 16 d.cve), (a 32, .inr (2, [.ref (a 33), .ref (a 34), .ref (a 35), .int (iI d.ec)])), (a 33, eI aC 100 d.e1), (a 34, eI aC 100 d.e2), (a 35, .inr (0, [.ref (a 36), .ref (a 37)])), (a 36, eJ aC 100 d.em), (a 37, eI aC 100 d.ee), (a 38, .inr (2, [.ref (a 39), .ref (a 40), .ref (a 41), .int (iI (d.pc + 1))])), (a 39, eI aC 60 (updI d.p1 d.pc (sc xs (i + 1)))), (a 40, eI aC 60 (updI d.p2 d.pc (sc xs (i + 2)))), (a 41, .inr (0, [.ref (a 42), .ref (a 43)])), (a 42, eJ aC 60 (updI d.pm d.pc ((sc xs (i + 3)) * 2 ^ nt (sc xs (i + 3))))), (a 43, eI aC 60 (updI d.pe d.pc (nx (sc xs (i + 3)) (-3) 0))), (b 16, eI aC 440 f), (b 18, eI aC 1200 f1), (b 19, eI aC 1200 f2), (b 20, eI aC 1200 f3), (b 21, eI aC 1200 f4), (b 22, eI aC 1200 f5), (b 0, .inr (6, [.int (iI er), .int (iI M.rw), .int (iI M.cn), .int (iI M.en), .int (iI M.pr), .double (dM M.ko (-3)), .ref (b 1), .ref (b 2), .ref (b 3), .ref (b 4), .ref (b 5), .ref (b 6), .ref (b 7), .ref (b 8), .ref (b 9), .ref (b 10), .ref (b 11), .ref (b 12), .ref (b 13), .ref (b 14), .ref (b 15), .int (iI p2), .ref (b 16), .ref (b 17), .ref (b 18), .ref (b 19), .ref (b 20), .ref (b 21), .ref (b 22)])), (b 17, eI aC 440 z), (b 1, eD aC 192 (dA M.ka c3)), (b 2, eD aC 16 (dA M.kc c3)), (b 3, eD aC 256 (dA M.kq c3)), (b 4, eD aC 16 (dA M.kl c3)), (b 5, eD aC 16 (dA M.kh c3)), (b 6, eD aC 12 (dA M.krl c3)), (b 7, eD aC 12 (dA M.krh c3)), (b 8, eD aC 16 (dA M.kx M.xb)), (b 9, eD aC 12 (dA M.ky M.yb)), (b 10, eZ aC 192 M.ai), (b 11, eZ aC 256 M.qi), (b 12, eZ aC 16 M.li), (b 13, eZ aC 16 M.hi), (b 14, eZ aC 12 M.rli), (b 15, eZ aC 12 M.rhi)] := e9
    subst e9
    change W p l e room_1 s m #[Value.ref sb] below meth c H locs (n1 + 1) (n2 + 6) Q (F0 m 482 ls [.int (iI 0)])
    refine lv_istore (lv' := [(6, .int (iI 0)), (5, .int (iI i)), (4, .ref od), (3, .ref ou), (2, .ref (b 0)), (1, .ref (a 0)), (0, .ref sb)]) hx hb d_La_law_482 hl (by decide) rfl (fun ls hl => ?_)
    refine lv_aload_n hx hb d_La_law_484 rfl (lv_at hl 4 rfl) ?_
    refine lv_aload_n hx hb d_La_law_485 rfl (lv_at hl 6 rfl) ?_
    refine lv_iload hx hb d_La_law_486 (lv_at hl 1 rfl) ?_
    refine lv_iconst (v := iI 1) hx hb d_La_law_488 rfl ?_
    refine x_iadd hx hb d_La_law_489 ?_
    refine x_sld hx hb hXs hbl hbA hS (by omega) (by omega) d_La_law_490 ?_
    have hsc490 := sc_r xs (i + 1)
    refine lv_aload_n hx hb d_La_law_491 rfl (lv_at hl 6 rfl) ?_
    refine lv_iload hx hb d_La_law_492 (lv_at hl 1 rfl) ?_
    refine lv_iconst (v := iI 2) hx hb d_La_law_494 rfl ?_
    refine x_iadd hx hb d_La_law_495 ?_
    refine x_sld hx hb hXs hbl hbA hS (by omega) (by omega) d_La_law_496 ?_
    have hsc496 := sc_r xs (i + 2)
    refine lv_aload_n hx hb d_La_law_497 rfl (lv_at hl 6 rfl) ?_
    refine lv_iload hx hb d_La_law_498 (lv_at hl 1 rfl) ?_
    refine lv_iconst (v := iI 3) hx hb d_La_law_500 rfl ?_
    refine x_iadd hx hb d_La_law_501 ?_
    refine x_sld hx hb hXs hbl hbA hS (by omega) (by omega) d_La_law_502 ?_
    have hsc502 := sc_r xs (i + 3)
    refine x_i2d hx hb d_La_law_503 (by omega) ?_
    refine x_ldc2d hx hb 1 (-3) (by decide +kernel) hown (hts _ wk_La_55) d_La_law_504 ?_
    refine x_dmul1 hx hb d_La_law_507 (by unfold dOk; omega) (by unfold dOk; omega) (by unfold dOk; omega) ?_
    refine x_topd _ _ (sc xs (i + 3)) (-3) (congrArg (dM (sc xs (i + 3))) (show (0 : Int) + (-3) = -3 from rfl)) ?_
    refine x_callVG S (c_Mo_pair_0 l D aC b M hM er p2 (sc xs (i + 1)) (sc xs (i + 2)) (sc xs (i + 3)) (by omega) (by omega) (by omega) (fun z9 => Decidable.byContradiction (fun h9 => hok.2.1 ((hR.qi hM z9.1 z9.2).mpr h9)))) t_La_81 ⟨rfl, rfl, by decide, by decide⟩ hK hN hP hD hS [58, 62, 70] [] rfl (by decide +kernel) (fun v9 w9 hw => by rcases hw with ⟨h1, rfl, rfl⟩ | ⟨h1, h2, rfl, rfl⟩ | ⟨h1, h2, rfl, rfl⟩ <;> exact ⟨rfl, Nat.le_of_ble_eq_true rfl⟩) 0 6 rfl rfl rfl hl.1 rfl (Nat.le_of_ble_eq_true rfl) d_La_law_508 ⟨by show n1 + 1 ≤ 601024; omega, by show n2 + 6 ≤ 7293034; omega⟩ (fun v w1 ws1 H locs e9 hw hP hD hS => ?_)
    rcases hw with ⟨h1, rfl, rfl⟩ | ⟨h1, h2, rfl, rfl⟩ | ⟨h1, h2, rfl, rfl⟩
    · exfalso; omega
    · exfalso; omega
    · have e9 : ws1 = [(ou, eJ aC 1 (updI o1 0 (d.pc + 1))), (od, eD aC 1 o2), (a 44, .inr (3, [.ref (a 45), .int (iI px), .int (iI pn)])), (a 45, eJ aC 6 pd), (a 46, .inr (4, [.ref (a 47), .long (lI mt), .int (iI ee)])), (a 47, eJ aC 112 fd), (a 48, .inr (4, [.ref (a 49), .long (lI mu), .int (iI eu)])), (a 49, eJ aC 112 gd), (a 0, .inr (5, [.ref (a 1), .ref (a 4), .ref (a 7), .ref (a 10), .ref (a 21), .ref (a 32), .ref (a 38), .ref (a 44), .ref (a 46), .ref (a 48)])), (a 1, .inr (0, [.ref (a 2), .ref (a 3)])), (a 2, eJ aC 1 d.om), (a 3, eI aC 1 d.oe), (a 4, .inr (0, [.ref (a 5), .ref (a 6)])), (a 5, eJ aC 1 d.nm), (a 6, eI aC 1 d.ne), (a 7, .inr (0, [.ref (a 8), .ref (a 9)])), (a 8, eJ aC 16 d.cm), (a 9, eI aC 16 d.ce), (a 10, .inr (1, [.ref (a 11), .ref (a 12), .ref (a 15), .ref (a 18), .int (iI d.rc)])), (a 11, eI aC 12 d.rl), (a 12, .inr (0, [.ref (a 13), .ref (a 14)])), (a 13, eJ aC 12 d.rlm), (a 14, eI aC 12 d.rle), (a 15, .inr (0, [.ref (a 16), .ref (a 17)])), (a 16, eJ aC 12 d.rhm), (a 17, eI aC 12 d.rhe), (a 18, .inr (0, [.ref (a 19), .ref (a 20)])), (a 19, eJ aC 12 d.rvm), (a 20, eI aC 12 d.rve), (a 21, .inr (1, [.ref (a 22), .ref (a 23), .ref (a 26), .ref (a 29), .int (iI d.cc)])), (a 22, eI aC 16 d.cl), (a 23, .inr (0, [.ref (a 24), .ref (a 25)])), (a 24, eJ aC 16 d.clm), (a 25, eI aC 16 d.cle), (a 26, .inr (0, [.ref (a 27), .ref (a 28)])), (a 27, eJ aC 16 d.chm), (a 28, eI aC 16 d.che), (a 29, .inr (0, [.ref (a 30), .ref (a 31)])), (a 30, eJ aC 16 d.cvm), (a 31, eI aC 16 d.cve), (a 32, .inr (2, [.ref (a 33), .ref (a 34), .ref (a 35), .int (iI d.ec)])), (a 33, eI aC 100 d.e1), (a 34, eI aC 100 d.e2), (a 35, .inr (0, [.ref (a 36), .ref (a 37)])), (a 36, eJ aC 100 d.em), (a 37, eI aC 100 d.ee), (a 38, .inr (2, [.ref (a 39), .ref (a 40), .ref (a 41), .int (iI (d.pc + 1))])), (a 39, eI aC 60 (updI d.p1 d.pc (sc xs (i + 1)))), (a 40, eI aC 60 (updI d.p2 d.pc (sc xs (i + 2)))), (a 41, .inr (0, [.ref (a 42), .ref (a 43)])), (a 42, eJ aC 60 (updI d.pm d.pc ((sc xs (i + 3)) * 2 ^ nt (sc xs (i + 3))))), (a 43, eI aC 60 (updI d.pe d.pc (nx (sc xs (i + 3)) (-3) 0))), (b 16, eI aC 440 f), (b 18, eI aC 1200 f1), (b 19, eI aC 1200 f2), (b 20, eI aC 1200 f3), (b 21, eI aC 1200 f4), (b 22, eI aC 1200 f5), (b 0, .inr (6, [.int (iI 0), .int (iI M.rw), .int (iI M.cn), .int (iI M.en), .int (iI (M.pr + 1)), .double (dM M.ko (-3)), .ref (b 1), .ref (b 2), .ref (b 3), .ref (b 4), .ref (b 5), .ref (b 6), .ref (b 7), .ref (b 8), .ref (b 9), .ref (b 10), .ref (b 11), .ref (b 12), .ref (b 13), .ref (b 14), .ref (b 15), .int (iI p2), .ref (b 16), .ref (b 17), .ref (b 18), .ref (b 19), .ref (b 20), .ref (b 21), .ref (b 22)])), (b 17, eI aC 440 z), (b 1, eD aC 192 (dA M.ka c3)), (b 2, eD aC 16 (dA M.kc c3)), (b 3, eD aC 256 (dA (updI (updI M.kq ((sc xs (i + 1)) * 16 + (sc xs (i + 2))) (sc xs (i + 3))) ((sc xs (i + 2)) * 16 + (sc xs (i + 1))) (sc xs (i + 3))) c3)), (b 4, eD aC 16 (dA M.kl c3)), (b 5, eD aC 16 (dA M.kh c3)), (b 6, eD aC 12 (dA M.krl c3)), (b 7, eD aC 12 (dA M.krh c3)), (b 8, eD aC 16 (dA M.kx M.xb)), (b 9, eD aC 12 (dA M.ky M.yb)), (b 10, eZ aC 192 M.ai), (b 11, eZ aC 256 (updI (updI M.qi ((sc xs (i + 1)) * 16 + (sc xs (i + 2))) 1) ((sc xs (i + 2)) * 16 + (sc xs (i + 1))) 1)), (b 12, eZ aC 16 M.li), (b 13, eZ aC 16 M.hi), (b 14, eZ aC 12 M.rli), (b 15, eZ aC 12 M.rhi)] := e9
      subst e9
      change W p l e room_1 s m #[Value.ref sb] below meth c H locs (n1 + 1) (n2 + 6) Q (F0 m 511 ls [.int (iI (M.pr + 1))])
      refine lv_istore (lv' := [(7, .int (iI (M.pr + 1))), (6, .int (iI 0)), (5, .int (iI i)), (4, .ref od), (3, .ref ou), (2, .ref (b 0)), (1, .ref (a 0)), (0, .ref sb)]) hx hb d_La_law_511 hl (by decide) rfl (fun ls hl => ?_)
      refine lv_aload_n hx hb d_La_law_513 rfl (lv_at hl 5 rfl) ?_
      refine y_callV1 (V := .int (iI 0)) S (c_Mo_thrown l D aC b (mPar M (sc xs (i + 1)) (sc xs (i + 2)) (sc xs (i + 3))) 0 p2) t_La_63 (rm_9 (by decide) (by decide)) hK hN hP [58] rfl 0 6 rfl rfl rfl hl.1 rfl (Nat.le_of_ble_eq_true rfl) d_La_law_514 ⟨by show n1 + 1 ≤ 601024; omega, by show n2 + 6 ≤ 7293034; omega⟩ ?_
      refine lv_iload hx hb d_La_law_517 (lv_at hl 1 rfl) ?_
      refine x_icmp_eq (tgt := 524) hx hb d_La_law_519 (by decide) (by omega) (by omega) (fun c_519 => ?_) (fun c_519 => (by exfalso; omega))
      refine lv_iload hx hb d_La_law_524 (lv_at hl 1 rfl) ?_
      refine x_if_ne (tgt := 541) hx hb d_La_law_526 (by decide) (by decide) (fun c_526 => (by exfalso; omega)) (fun c_526 => ?_)
      refine lv_aload_n hx hb d_La_law_529 rfl (lv_at hl 4 rfl) ?_
      refine lv_iconst (v := iI 0) hx hb d_La_law_530 rfl ?_
      refine x_lald hx hb hK hP 0 rfl (by omega) (by decide) d_La_law_531 ?_
      refine x_topl ((updI o1 0 (d.pc + 1)) 0) (d.pc + 1) (updI_s _ _ _) ?_
      refine lv_iload hx hb d_La_law_532 (lv_at hl 0 rfl) ?_
      refine x_i2l hx hb d_La_law_534 (by omega) ?_
      refine x_lcmp_eq (tgt := 541) hx hb d_La_law_535 d_La_law_536 (by decide) (by omega) (by omega) (fun c_535 => ?_) (fun c_535 => (by exfalso; omega))
      refine lv_goto (tgt := 841) hx hb d_La_law_541 (by decide) ?_
      have hz9 : M.qi ((sc xs (i + 1)) * 16 + (sc xs (i + 2))) = 0 := Decidable.byContradiction (fun h9 => hok.2.1 ((hR.qi hM (i := (sc xs (i + 1))) (j := (sc xs (i + 2))) (by omega) (by omega)).mpr h9))
      have hz8 : M.qi ((sc xs (i + 2)) * 16 + (sc xs (i + 1))) = 0 := Decidable.byContradiction (fun h9 => hok.2.1 ((hR.qi hM (i := (sc xs (i + 2))) (j := (sc xs (i + 1))) (by omega) (by omega)).mpr h9).symm)
      refine W.widen (k := n1 + 2) (n := n2 + 12) (by omega) (by omega) ?_
      exact kk (dPar d (sc xs (i + 1)) (sc xs (i + 2)) (sc xs (i + 3))) (mPar M (sc xs (i + 1)) (sc xs (i + 2)) (sc xs (i + 3))) pd px pn fd mt ee gd mu eu 0 p2 f f1 f2 f3 f4 f5 z (updI o1 0 (d.pc + 1)) o2 _ _ _ (DI_Par hd hM hR (by omega) (by omega) (by omega) hz9 hz8 (by omega)) (MI_Par hM (by omega) (by omega) (by omega) hz9 hz8 (by omega)) (Rel_Par hd hM hR (by omega) (by omega) (by omega) hz9 hz8 (by omega)) hP hD hS (lv_sub hl [2, 3, 4, 5, 6, 7] rfl)
  · have e9 : ws1 = [(ou, eJ aC 1 o1), (od, eD aC 1 o2), (a 44, .inr (3, [.ref (a 45), .int (iI px), .int (iI pn)])), (a 45, eJ aC 6 pd), (a 46, .inr (4, [.ref (a 47), .long (lI mt), .int (iI ee)])), (a 47, eJ aC 112 fd), (a 48, .inr (4, [.ref (a 49), .long (lI mu), .int (iI eu)])), (a 49, eJ aC 112 gd), (a 0, .inr (5, [.ref (a 1), .ref (a 4), .ref (a 7), .ref (a 10), .ref (a 21), .ref (a 32), .ref (a 38), .ref (a 44), .ref (a 46), .ref (a 48)])), (a 1, .inr (0, [.ref (a 2), .ref (a 3)])), (a 2, eJ aC 1 d.om), (a 3, eI aC 1 d.oe), (a 4, .inr (0, [.ref (a 5), .ref (a 6)])), (a 5, eJ aC 1 d.nm), (a 6, eI aC 1 d.ne), (a 7, .inr (0, [.ref (a 8), .ref (a 9)])), (a 8, eJ aC 16 d.cm), (a 9, eI aC 16 d.ce), (a 10, .inr (1, [.ref (a 11), .ref (a 12), .ref (a 15), .ref (a 18), .int (iI d.rc)])), (a 11, eI aC 12 d.rl), (a 12, .inr (0, [.ref (a 13), .ref (a 14)])), (a 13, eJ aC 12 d.rlm), (a 14, eI aC 12 d.rle), (a 15, .inr (0, [.ref (a 16), .ref (a 17)])), (a 16, eJ aC 12 d.rhm), (a 17, eI aC 12 d.rhe), (a 18, .inr (0, [.ref (a 19), .ref (a 20)])), (a 19, eJ aC 12 d.rvm), (a 20, eI aC 12 d.rve), (a 21, .inr (1, [.ref (a 22), .ref (a 23), .ref (a 26), .ref (a 29), .int (iI d.cc)])), (a 22, eI aC 16 d.cl), (a 23, .inr (0, [.ref (a 24), .ref (a 25)])), (a 24, eJ aC 16 d.clm), (a 25, eI aC 16 d.cle), (a 26, .inr (0, [.ref (a 27), .ref (a 28)])), (a 27, eJ aC 16 d.chm), (a 28, eI aC 16 d.che), (a 29, .inr (0, [.ref (a 30), .ref (a 31)])), (a 30, eJ aC 16 d.cvm), (a 31, eI aC 16 d.cve), (a 32, .inr (2, [.ref (a 33), .ref (a 34), .ref (a 35), .int (iI d.ec)])), (a 33, eI aC 100 d.e1), (a 34, eI aC 100 d.e2), (a 35, .inr (0, [.ref (a 36), .ref (a 37)])), (a 36, eJ aC 100 d.em), (a 37, eI aC 100 d.ee), (a 38, .inr (2, [.ref (a 39), .ref (a 40), .ref (a 41), .int (iI d.pc)])), (a 39, eI aC 60 d.p1), (a 40, eI aC 60 d.p2), (a 41, .inr (0, [.ref (a 42), .ref (a 43)])), (a 42, eJ aC 60 d.pm), (a 43, eI aC 60 d.pe), (b 16, eI aC 440 f), (b 18, eI aC 1200 f1), (b 19, eI aC 1200 f2), (b 20, eI aC 1200 f3), (b 21, eI aC 1200 f4), (b 22, eI aC 1200 f5), (b 0, .inr (6, [.int (iI er), .int (iI M.rw), .int (iI M.cn), .int (iI M.en), .int (iI M.pr), .double (dM M.ko (-3)), .ref (b 1), .ref (b 2), .ref (b 3), .ref (b 4), .ref (b 5), .ref (b 6), .ref (b 7), .ref (b 8), .ref (b 9), .ref (b 10), .ref (b 11), .ref (b 12), .ref (b 13), .ref (b 14), .ref (b 15), .int (iI p2), .ref (b 16), .ref (b 17), .ref (b 18), .ref (b 19), .ref (b 20), .ref (b 21), .ref (b 22)])), (b 17, eI aC 440 z), (b 1, eD aC 192 (dA M.ka c3)), (b 2, eD aC 16 (dA M.kc c3)), (b 3, eD aC 256 (dA M.kq c3)), (b 4, eD aC 16 (dA M.kl c3)), (b 5, eD aC 16 (dA M.kh c3)), (b 6, eD aC 12 (dA M.krl c3)), (b 7, eD aC 12 (dA M.krh c3)), (b 8, eD aC 16 (dA M.kx M.xb)), (b 9, eD aC 12 (dA M.ky M.yb)), (b 10, eZ aC 192 M.ai), (b 11, eZ aC 256 M.qi), (b 12, eZ aC 16 M.li), (b 13, eZ aC 16 M.hi), (b 14, eZ aC 12 M.rli), (b 15, eZ aC 12 M.rhi)] := e9
    subst e9
    change W p l e room_1 s m #[Value.ref sb] below meth c H locs (n1 + 1) (n2 + 6) Q (F0 m 482 ls [.int (iI 1)])
    refine lv_istore (lv' := [(6, .int (iI 1)), (5, .int (iI i)), (4, .ref od), (3, .ref ou), (2, .ref (b 0)), (1, .ref (a 0)), (0, .ref sb)]) hx hb d_La_law_482 hl (by decide) rfl (fun ls hl => ?_)
    refine lv_aload_n hx hb d_La_law_484 rfl (lv_at hl 4 rfl) ?_
    refine lv_aload_n hx hb d_La_law_485 rfl (lv_at hl 6 rfl) ?_
    refine lv_iload hx hb d_La_law_486 (lv_at hl 1 rfl) ?_
    refine lv_iconst (v := iI 1) hx hb d_La_law_488 rfl ?_
    refine x_iadd hx hb d_La_law_489 ?_
    refine x_sld hx hb hXs hbl hbA hS (by omega) (by omega) d_La_law_490 ?_
    have hsc490 := sc_r xs (i + 1)
    refine lv_aload_n hx hb d_La_law_491 rfl (lv_at hl 6 rfl) ?_
    refine lv_iload hx hb d_La_law_492 (lv_at hl 1 rfl) ?_
    refine lv_iconst (v := iI 2) hx hb d_La_law_494 rfl ?_
    refine x_iadd hx hb d_La_law_495 ?_
    refine x_sld hx hb hXs hbl hbA hS (by omega) (by omega) d_La_law_496 ?_
    have hsc496 := sc_r xs (i + 2)
    refine lv_aload_n hx hb d_La_law_497 rfl (lv_at hl 6 rfl) ?_
    refine lv_iload hx hb d_La_law_498 (lv_at hl 1 rfl) ?_
    refine lv_iconst (v := iI 3) hx hb d_La_law_500 rfl ?_
    refine x_iadd hx hb d_La_law_501 ?_
    refine x_sld hx hb hXs hbl hbA hS (by omega) (by omega) d_La_law_502 ?_
    have hsc502 := sc_r xs (i + 3)
    refine x_i2d hx hb d_La_law_503 (by omega) ?_
    refine x_ldc2d hx hb 1 (-3) (by decide +kernel) hown (hts _ wk_La_55) d_La_law_504 ?_
    refine x_dmul1 hx hb d_La_law_507 (by unfold dOk; omega) (by unfold dOk; omega) (by unfold dOk; omega) ?_
    refine x_topd _ _ (sc xs (i + 3)) (-3) (congrArg (dM (sc xs (i + 3))) (show (0 : Int) + (-3) = -3 from rfl)) ?_
    refine x_callVG S (c_Mo_pair_0 l D aC b M hM er p2 (sc xs (i + 1)) (sc xs (i + 2)) (sc xs (i + 3)) (by omega) (by omega) (by omega) (fun z9 => absurd z9 (by omega))) t_La_81 ⟨rfl, rfl, by decide, by decide⟩ hK hN hP hD hS [58, 62, 70] [] rfl (by decide +kernel) (fun v9 w9 hw => by rcases hw with ⟨h1, rfl, rfl⟩ | ⟨h1, h2, rfl, rfl⟩ | ⟨h1, h2, rfl, rfl⟩ <;> exact ⟨rfl, Nat.le_of_ble_eq_true rfl⟩) 0 6 rfl rfl rfl hl.1 rfl (Nat.le_of_ble_eq_true rfl) d_La_law_508 ⟨by show n1 + 1 ≤ 601024; omega, by show n2 + 6 ≤ 7293034; omega⟩ (fun v w1 ws1 H locs e9 hw hP hD hS => ?_)
    rcases hw with ⟨h1, rfl, rfl⟩ | ⟨h1, h2, rfl, rfl⟩ | ⟨h1, h2, rfl, rfl⟩
    · have e9 : ws1 = [(ou, eJ aC 1 o1), (od, eD aC 1 o2), (a 44, .inr (3, [.ref (a 45), .int (iI px), .int (iI pn)])), (a 45, eJ aC 6 pd), (a 46, .inr (4, [.ref (a 47), .long (lI mt), .int (iI ee)])), (a 47, eJ aC 112 fd), (a 48, .inr (4, [.ref (a 49), .long (lI mu), .int (iI eu)])), (a 49, eJ aC 112 gd), (a 0, .inr (5, [.ref (a 1), .ref (a 4), .ref (a 7), .ref (a 10), .ref (a 21), .ref (a 32), .ref (a 38), .ref (a 44), .ref (a 46), .ref (a 48)])), (a 1, .inr (0, [.ref (a 2), .ref (a 3)])), (a 2, eJ aC 1 d.om), (a 3, eI aC 1 d.oe), (a 4, .inr (0, [.ref (a 5), .ref (a 6)])), (a 5, eJ aC 1 d.nm), (a 6, eI aC 1 d.ne), (a 7, .inr (0, [.ref (a 8), .ref (a 9)])), (a 8, eJ aC 16 d.cm), (a 9, eI aC 16 d.ce), (a 10, .inr (1, [.ref (a 11), .ref (a 12), .ref (a 15), .ref (a 18), .int (iI d.rc)])), (a 11, eI aC 12 d.rl), (a 12, .inr (0, [.ref (a 13), .ref (a 14)])), (a 13, eJ aC 12 d.rlm), (a 14, eI aC 12 d.rle), (a 15, .inr (0, [.ref (a 16), .ref (a 17)])), (a 16, eJ aC 12 d.rhm), (a 17, eI aC 12 d.rhe), (a 18, .inr (0, [.ref (a 19), .ref (a 20)])), (a 19, eJ aC 12 d.rvm), (a 20, eI aC 12 d.rve), (a 21, .inr (1, [.ref (a 22), .ref (a 23), .ref (a 26), .ref (a 29), .int (iI d.cc)])), (a 22, eI aC 16 d.cl), (a 23, .inr (0, [.ref (a 24), .ref (a 25)])), (a 24, eJ aC 16 d.clm), (a 25, eI aC 16 d.cle), (a 26, .inr (0, [.ref (a 27), .ref (a 28)])), (a 27, eJ aC 16 d.chm), (a 28, eI aC 16 d.che), (a 29, .inr (0, [.ref (a 30), .ref (a 31)])), (a 30, eJ aC 16 d.cvm), (a 31, eI aC 16 d.cve), (a 32, .inr (2, [.ref (a 33), .ref (a 34), .ref (a 35), .int (iI d.ec)])), (a 33, eI aC 100 d.e1), (a 34, eI aC 100 d.e2), (a 35, .inr (0, [.ref (a 36), .ref (a 37)])), (a 36, eJ aC 100 d.em), (a 37, eI aC 100 d.ee), (a 38, .inr (2, [.ref (a 39), .ref (a 40), .ref (a 41), .int (iI d.pc)])), (a 39, eI aC 60 d.p1), (a 40, eI aC 60 d.p2), (a 41, .inr (0, [.ref (a 42), .ref (a 43)])), (a 42, eJ aC 60 d.pm), (a 43, eI aC 60 d.pe), (b 16, eI aC 440 f), (b 18, eI aC 1200 f1), (b 19, eI aC 1200 f2), (b 20, eI aC 1200 f3), (b 21, eI aC 1200 f4), (b 22, eI aC 1200 f5), (b 0, .inr (6, [.int (iI 1), .int (iI M.rw), .int (iI M.cn), .int (iI M.en), .int (iI M.pr), .double (dM M.ko (-3)), .ref (b 1), .ref (b 2), .ref (b 3), .ref (b 4), .ref (b 5), .ref (b 6), .ref (b 7), .ref (b 8), .ref (b 9), .ref (b 10), .ref (b 11), .ref (b 12), .ref (b 13), .ref (b 14), .ref (b 15), .int (iI p2), .ref (b 16), .ref (b 17), .ref (b 18), .ref (b 19), .ref (b 20), .ref (b 21), .ref (b 22)])), (b 17, eI aC 440 z), (b 1, eD aC 192 (dA M.ka c3)), (b 2, eD aC 16 (dA M.kc c3)), (b 3, eD aC 256 (dA M.kq c3)), (b 4, eD aC 16 (dA M.kl c3)), (b 5, eD aC 16 (dA M.kh c3)), (b 6, eD aC 12 (dA M.krl c3)), (b 7, eD aC 12 (dA M.krh c3)), (b 8, eD aC 16 (dA M.kx M.xb)), (b 9, eD aC 12 (dA M.ky M.yb)), (b 10, eZ aC 192 M.ai), (b 11, eZ aC 256 M.qi), (b 12, eZ aC 16 M.li), (b 13, eZ aC 16 M.hi), (b 14, eZ aC 12 M.rli), (b 15, eZ aC 12 M.rhi)] := e9
      subst e9
      change W p l e room_1 s m #[Value.ref sb] below meth c H locs (n1 + 1) (n2 + 6) Q (F0 m 511 ls [.int (iI 0)])
      refine lv_istore (lv' := [(7, .int (iI 0)), (6, .int (iI 1)), (5, .int (iI i)), (4, .ref od), (3, .ref ou), (2, .ref (b 0)), (1, .ref (a 0)), (0, .ref sb)]) hx hb d_La_law_511 hl (by decide) rfl (fun ls hl => ?_)
      refine lv_aload_n hx hb d_La_law_513 rfl (lv_at hl 5 rfl) ?_
      refine y_callV1 (V := .int (iI 1)) S (c_Mo_thrown l D aC b M 1 p2) t_La_63 (rm_9 (by decide) (by decide)) hK hN hP [58] rfl 0 6 rfl rfl rfl hl.1 rfl (Nat.le_of_ble_eq_true rfl) d_La_law_514 ⟨by show n1 + 1 ≤ 601024; omega, by show n2 + 6 ≤ 7293034; omega⟩ ?_
      refine lv_iload hx hb d_La_law_517 (lv_at hl 1 rfl) ?_
      refine x_icmp_eq (tgt := 524) hx hb d_La_law_519 (by decide) (by omega) (by omega) (fun c_519 => ?_) (fun c_519 => (by exfalso; omega))
      refine lv_iload hx hb d_La_law_524 (lv_at hl 1 rfl) ?_
      refine x_if_ne (tgt := 541) hx hb d_La_law_526 (by decide) (by decide) (fun c_526 => ?_) (fun c_526 => (by exfalso; omega))
      refine lv_goto (tgt := 841) hx hb d_La_law_541 (by decide) ?_
      refine W.widen (k := n1 + 2) (n := n2 + 12) (by omega) (by omega) ?_
      exact kk d M pd px pn fd mt ee gd mu eu 1 p2 f f1 f2 f3 f4 f5 z o1 o2 _ _ _ (hd) (hM) (hR) hP hD hS (lv_sub hl [2, 3, 4, 5, 6, 7] rfl)
    · exfalso; omega
    · exfalso; omega
  · have e9 : ws1 = [(ou, eJ aC 1 o1), (od, eD aC 1 o2), (a 44, .inr (3, [.ref (a 45), .int (iI px), .int (iI pn)])), (a 45, eJ aC 6 pd), (a 46, .inr (4, [.ref (a 47), .long (lI mt), .int (iI ee)])), (a 47, eJ aC 112 fd), (a 48, .inr (4, [.ref (a 49), .long (lI mu), .int (iI eu)])), (a 49, eJ aC 112 gd), (a 0, .inr (5, [.ref (a 1), .ref (a 4), .ref (a 7), .ref (a 10), .ref (a 21), .ref (a 32), .ref (a 38), .ref (a 44), .ref (a 46), .ref (a 48)])), (a 1, .inr (0, [.ref (a 2), .ref (a 3)])), (a 2, eJ aC 1 d.om), (a 3, eI aC 1 d.oe), (a 4, .inr (0, [.ref (a 5), .ref (a 6)])), (a 5, eJ aC 1 d.nm), (a 6, eI aC 1 d.ne), (a 7, .inr (0, [.ref (a 8), .ref (a 9)])), (a 8, eJ aC 16 d.cm), (a 9, eI aC 16 d.ce), (a 10, .inr (1, [.ref (a 11), .ref (a 12), .ref (a 15), .ref (a 18), .int (iI d.rc)])), (a 11, eI aC 12 d.rl), (a 12, .inr (0, [.ref (a 13), .ref (a 14)])), (a 13, eJ aC 12 d.rlm), (a 14, eI aC 12 d.rle), (a 15, .inr (0, [.ref (a 16), .ref (a 17)])), (a 16, eJ aC 12 d.rhm), (a 17, eI aC 12 d.rhe), (a 18, .inr (0, [.ref (a 19), .ref (a 20)])), (a 19, eJ aC 12 d.rvm), (a 20, eI aC 12 d.rve), (a 21, .inr (1, [.ref (a 22), .ref (a 23), .ref (a 26), .ref (a 29), .int (iI d.cc)])), (a 22, eI aC 16 d.cl), (a 23, .inr (0, [.ref (a 24), .ref (a 25)])), (a 24, eJ aC 16 d.clm), (a 25, eI aC 16 d.cle), (a 26, .inr (0, [.ref (a 27), .ref (a 28)])), (a 27, eJ aC 16 d.chm), (a 28, eI aC 16 d.che), (a 29, .inr (0, [.ref (a 30), .ref (a 31)])), (a 30, eJ aC 16 d.cvm), (a 31, eI aC 16 d.cve), (a 32, .inr (2, [.ref (a 33), .ref (a 34), .ref (a 35), .int (iI d.ec)])), (a 33, eI aC 100 d.e1), (a 34, eI aC 100 d.e2), (a 35, .inr (0, [.ref (a 36), .ref (a 37)])), (a 36, eJ aC 100 d.em), (a 37, eI aC 100 d.ee), (a 38, .inr (2, [.ref (a 39), .ref (a 40), .ref (a 41), .int (iI d.pc)])), (a 39, eI aC 60 d.p1), (a 40, eI aC 60 d.p2), (a 41, .inr (0, [.ref (a 42), .ref (a 43)])), (a 42, eJ aC 60 d.pm), (a 43, eI aC 60 d.pe), (b 16, eI aC 440 f), (b 18, eI aC 1200 f1), (b 19, eI aC 1200 f2), (b 20, eI aC 1200 f3), (b 21, eI aC 1200 f4), (b 22, eI aC 1200 f5), (b 0, .inr (6, [.int (iI er), .int (iI M.rw), .int (iI M.cn), .int (iI M.en), .int (iI M.pr), .double (dM M.ko (-3)), .ref (b 1), .ref (b 2), .ref (b 3), .ref (b 4), .ref (b 5), .ref (b 6), .ref (b 7), .ref (b 8), .ref (b 9), .ref (b 10), .ref (b 11), .ref (b 12), .ref (b 13), .ref (b 14), .ref (b 15), .int (iI p2), .ref (b 16), .ref (b 17), .ref (b 18), .ref (b 19), .ref (b 20), .ref (b 21), .ref (b 22)])), (b 17, eI aC 440 z), (b 1, eD aC 192 (dA M.ka c3)), (b 2, eD aC 16 (dA M.kc c3)), (b 3, eD aC 256 (dA M.kq c3)), (b 4, eD aC 16 (dA M.kl c3)), (b 5, eD aC 16 (dA M.kh c3)), (b 6, eD aC 12 (dA M.krl c3)), (b 7, eD aC 12 (dA M.krh c3)), (b 8, eD aC 16 (dA M.kx M.xb)), (b 9, eD aC 12 (dA M.ky M.yb)), (b 10, eZ aC 192 M.ai), (b 11, eZ aC 256 M.qi), (b 12, eZ aC 16 M.li), (b 13, eZ aC 16 M.hi), (b 14, eZ aC 12 M.rli), (b 15, eZ aC 12 M.rhi)] := e9
    subst e9
    change W p l e room_1 s m #[Value.ref sb] below meth c H locs (n1 + 1) (n2 + 6) Q (F0 m 482 ls [.int (iI 2)])
    refine lv_istore (lv' := [(6, .int (iI 2)), (5, .int (iI i)), (4, .ref od), (3, .ref ou), (2, .ref (b 0)), (1, .ref (a 0)), (0, .ref sb)]) hx hb d_La_law_482 hl (by decide) rfl (fun ls hl => ?_)
    refine lv_aload_n hx hb d_La_law_484 rfl (lv_at hl 4 rfl) ?_
    refine lv_aload_n hx hb d_La_law_485 rfl (lv_at hl 6 rfl) ?_
    refine lv_iload hx hb d_La_law_486 (lv_at hl 1 rfl) ?_
    refine lv_iconst (v := iI 1) hx hb d_La_law_488 rfl ?_
    refine x_iadd hx hb d_La_law_489 ?_
    refine x_sld hx hb hXs hbl hbA hS (by omega) (by omega) d_La_law_490 ?_
    have hsc490 := sc_r xs (i + 1)
    refine lv_aload_n hx hb d_La_law_491 rfl (lv_at hl 6 rfl) ?_
    refine lv_iload hx hb d_La_law_492 (lv_at hl 1 rfl) ?_
    refine lv_iconst (v := iI 2) hx hb d_La_law_494 rfl ?_
    refine x_iadd hx hb d_La_law_495 ?_
    refine x_sld hx hb hXs hbl hbA hS (by omega) (by omega) d_La_law_496 ?_
    have hsc496 := sc_r xs (i + 2)
    refine lv_aload_n hx hb d_La_law_497 rfl (lv_at hl 6 rfl) ?_
    refine lv_iload hx hb d_La_law_498 (lv_at hl 1 rfl) ?_
    refine lv_iconst (v := iI 3) hx hb d_La_law_500 rfl ?_
    refine x_iadd hx hb d_La_law_501 ?_
    refine x_sld hx hb hXs hbl hbA hS (by omega) (by omega) d_La_law_502 ?_
    have hsc502 := sc_r xs (i + 3)
    refine x_i2d hx hb d_La_law_503 (by omega) ?_
    refine x_ldc2d hx hb 1 (-3) (by decide +kernel) hown (hts _ wk_La_55) d_La_law_504 ?_
    refine x_dmul1 hx hb d_La_law_507 (by unfold dOk; omega) (by unfold dOk; omega) (by unfold dOk; omega) ?_
    refine x_topd _ _ (sc xs (i + 3)) (-3) (congrArg (dM (sc xs (i + 3))) (show (0 : Int) + (-3) = -3 from rfl)) ?_
    refine x_callVG S (c_Mo_pair_1 l D aC b M hM er p2 (sc xs (i + 1)) (sc xs (i + 2)) (sc xs (i + 3)) (by omega) (by omega) (by omega) (fun z9 => by have y9 := (hR.qi hM z9.1 z9.2).mp hok.2; have w9 := hM.qi ((sc xs (i + 1)) * 16 + (sc xs (i + 2))) (by omega) (by omega); omega)) t_La_81 ⟨rfl, rfl, by decide, by decide⟩ hK hN hP hD hS [58] [62, 70] rfl (by decide +kernel) (fun v9 w9 hw => by rcases hw with ⟨h1, rfl, rfl⟩ | ⟨h1, rfl, rfl⟩ <;> exact ⟨rfl, Nat.le_of_ble_eq_true rfl⟩) 0 6 rfl rfl rfl hl.1 rfl (Nat.le_of_ble_eq_true rfl) d_La_law_508 ⟨by show n1 + 1 ≤ 601024; omega, by show n2 + 6 ≤ 7293034; omega⟩ (fun v w1 ws1 H locs e9 hw hP hD hS => ?_)
    rcases hw with ⟨h1, rfl, rfl⟩ | ⟨h1, rfl, rfl⟩
    · exfalso; omega
    · have e9 : ws1 = [(ou, eJ aC 1 o1), (od, eD aC 1 o2), (a 44, .inr (3, [.ref (a 45), .int (iI px), .int (iI pn)])), (a 45, eJ aC 6 pd), (a 46, .inr (4, [.ref (a 47), .long (lI mt), .int (iI ee)])), (a 47, eJ aC 112 fd), (a 48, .inr (4, [.ref (a 49), .long (lI mu), .int (iI eu)])), (a 49, eJ aC 112 gd), (a 0, .inr (5, [.ref (a 1), .ref (a 4), .ref (a 7), .ref (a 10), .ref (a 21), .ref (a 32), .ref (a 38), .ref (a 44), .ref (a 46), .ref (a 48)])), (a 1, .inr (0, [.ref (a 2), .ref (a 3)])), (a 2, eJ aC 1 d.om), (a 3, eI aC 1 d.oe), (a 4, .inr (0, [.ref (a 5), .ref (a 6)])), (a 5, eJ aC 1 d.nm), (a 6, eI aC 1 d.ne), (a 7, .inr (0, [.ref (a 8), .ref (a 9)])), (a 8, eJ aC 16 d.cm), (a 9, eI aC 16 d.ce), (a 10, .inr (1, [.ref (a 11), .ref (a 12), .ref (a 15), .ref (a 18), .int (iI d.rc)])), (a 11, eI aC 12 d.rl), (a 12, .inr (0, [.ref (a 13), .ref (a 14)])), (a 13, eJ aC 12 d.rlm), (a 14, eI aC 12 d.rle), (a 15, .inr (0, [.ref (a 16), .ref (a 17)])), (a 16, eJ aC 12 d.rhm), (a 17, eI aC 12 d.rhe), (a 18, .inr (0, [.ref (a 19), .ref (a 20)])), (a 19, eJ aC 12 d.rvm), (a 20, eI aC 12 d.rve), (a 21, .inr (1, [.ref (a 22), .ref (a 23), .ref (a 26), .ref (a 29), .int (iI d.cc)])), (a 22, eI aC 16 d.cl), (a 23, .inr (0, [.ref (a 24), .ref (a 25)])), (a 24, eJ aC 16 d.clm), (a 25, eI aC 16 d.cle), (a 26, .inr (0, [.ref (a 27), .ref (a 28)])), (a 27, eJ aC 16 d.chm), (a 28, eI aC 16 d.che), (a 29, .inr (0, [.ref (a 30), .ref (a 31)])), (a 30, eJ aC 16 d.cvm), (a 31, eI aC 16 d.cve), (a 32, .inr (2, [.ref (a 33), .ref (a 34), .ref (a 35), .int (iI d.ec)])), (a 33, eI aC 100 d.e1), (a 34, eI aC 100 d.e2), (a 35, .inr (0, [.ref (a 36), .ref (a 37)])), (a 36, eJ aC 100 d.em), (a 37, eI aC 100 d.ee), (a 38, .inr (2, [.ref (a 39), .ref (a 40), .ref (a 41), .int (iI d.pc)])), (a 39, eI aC 60 d.p1), (a 40, eI aC 60 d.p2), (a 41, .inr (0, [.ref (a 42), .ref (a 43)])), (a 42, eJ aC 60 d.pm), (a 43, eI aC 60 d.pe), (b 16, eI aC 440 f), (b 18, eI aC 1200 f1), (b 19, eI aC 1200 f2), (b 20, eI aC 1200 f3), (b 21, eI aC 1200 f4), (b 22, eI aC 1200 f5), (b 0, .inr (6, [.int (iI 2), .int (iI M.rw), .int (iI M.cn), .int (iI M.en), .int (iI M.pr), .double (dM M.ko (-3)), .ref (b 1), .ref (b 2), .ref (b 3), .ref (b 4), .ref (b 5), .ref (b 6), .ref (b 7), .ref (b 8), .ref (b 9), .ref (b 10), .ref (b 11), .ref (b 12), .ref (b 13), .ref (b 14), .ref (b 15), .int (iI p2), .ref (b 16), .ref (b 17), .ref (b 18), .ref (b 19), .ref (b 20), .ref (b 21), .ref (b 22)])), (b 17, eI aC 440 z), (b 1, eD aC 192 (dA M.ka c3)), (b 2, eD aC 16 (dA M.kc c3)), (b 3, eD aC 256 (dA M.kq c3)), (b 4, eD aC 16 (dA M.kl c3)), (b 5, eD aC 16 (dA M.kh c3)), (b 6, eD aC 12 (dA M.krl c3)), (b 7, eD aC 12 (dA M.krh c3)), (b 8, eD aC 16 (dA M.kx M.xb)), (b 9, eD aC 12 (dA M.ky M.yb)), (b 10, eZ aC 192 M.ai), (b 11, eZ aC 256 M.qi), (b 12, eZ aC 16 M.li), (b 13, eZ aC 16 M.hi), (b 14, eZ aC 12 M.rli), (b 15, eZ aC 12 M.rhi)] := e9
      subst e9
      change W p l e room_1 s m #[Value.ref sb] below meth c H locs (n1 + 1) (n2 + 6) Q (F0 m 511 ls [.int (iI 0)])
      refine lv_istore (lv' := [(7, .int (iI 0)), (6, .int (iI 2)), (5, .int (iI i)), (4, .ref od), (3, .ref ou), (2, .ref (b 0)), (1, .ref (a 0)), (0, .ref sb)]) hx hb d_La_law_511 hl (by decide) rfl (fun ls hl => ?_)
      refine lv_aload_n hx hb d_La_law_513 rfl (lv_at hl 5 rfl) ?_
      refine y_callV1 (V := .int (iI 2)) S (c_Mo_thrown l D aC b M 2 p2) t_La_63 (rm_9 (by decide) (by decide)) hK hN hP [58] rfl 0 6 rfl rfl rfl hl.1 rfl (Nat.le_of_ble_eq_true rfl) d_La_law_514 ⟨by show n1 + 1 ≤ 601024; omega, by show n2 + 6 ≤ 7293034; omega⟩ ?_
      refine lv_iload hx hb d_La_law_517 (lv_at hl 1 rfl) ?_
      refine x_icmp_eq (tgt := 524) hx hb d_La_law_519 (by decide) (by omega) (by omega) (fun c_519 => ?_) (fun c_519 => (by exfalso; omega))
      refine lv_iload hx hb d_La_law_524 (lv_at hl 1 rfl) ?_
      refine x_if_ne (tgt := 541) hx hb d_La_law_526 (by decide) (by decide) (fun c_526 => ?_) (fun c_526 => (by exfalso; omega))
      refine lv_goto (tgt := 841) hx hb d_La_law_541 (by decide) ?_
      refine W.widen (k := n1 + 2) (n := n2 + 12) (by omega) (by omega) ?_
      exact kk d M pd px pn fd mt ee gd mu eu 2 p2 f f1 f2 f3 f4 f5 z o1 o2 _ _ _ (hd) (hM) (hR) hP hD hS (lv_sub hl [2, 3, 4, 5, 6, 7] rfl)
  · have e9 : ws1 = [(ou, eJ aC 1 o1), (od, eD aC 1 o2), (a 44, .inr (3, [.ref (a 45), .int (iI px), .int (iI pn)])), (a 45, eJ aC 6 pd), (a 46, .inr (4, [.ref (a 47), .long (lI mt), .int (iI ee)])), (a 47, eJ aC 112 fd), (a 48, .inr (4, [.ref (a 49), .long (lI mu), .int (iI eu)])), (a 49, eJ aC 112 gd), (a 0, .inr (5, [.ref (a 1), .ref (a 4), .ref (a 7), .ref (a 10), .ref (a 21), .ref (a 32), .ref (a 38), .ref (a 44), .ref (a 46), .ref (a 48)])), (a 1, .inr (0, [.ref (a 2), .ref (a 3)])), (a 2, eJ aC 1 d.om), (a 3, eI aC 1 d.oe), (a 4, .inr (0, [.ref (a 5), .ref (a 6)])), (a 5, eJ aC 1 d.nm), (a 6, eI aC 1 d.ne), (a 7, .inr (0, [.ref (a 8), .ref (a 9)])), (a 8, eJ aC 16 d.cm), (a 9, eI aC 16 d.ce), (a 10, .inr (1, [.ref (a 11), .ref (a 12), .ref (a 15), .ref (a 18), .int (iI d.rc)])), (a 11, eI aC 12 d.rl), (a 12, .inr (0, [.ref (a 13), .ref (a 14)])), (a 13, eJ aC 12 d.rlm), (a 14, eI aC 12 d.rle), (a 15, .inr (0, [.ref (a 16), .ref (a 17)])), (a 16, eJ aC 12 d.rhm), (a 17, eI aC 12 d.rhe), (a 18, .inr (0, [.ref (a 19), .ref (a 20)])), (a 19, eJ aC 12 d.rvm), (a 20, eI aC 12 d.rve), (a 21, .inr (1, [.ref (a 22), .ref (a 23), .ref (a 26), .ref (a 29), .int (iI d.cc)])), (a 22, eI aC 16 d.cl), (a 23, .inr (0, [.ref (a 24), .ref (a 25)])), (a 24, eJ aC 16 d.clm), (a 25, eI aC 16 d.cle), (a 26, .inr (0, [.ref (a 27), .ref (a 28)])), (a 27, eJ aC 16 d.chm), (a 28, eI aC 16 d.che), (a 29, .inr (0, [.ref (a 30), .ref (a 31)])), (a 30, eJ aC 16 d.cvm), (a 31, eI aC 16 d.cve), (a 32, .inr (2, [.ref (a 33), .ref (a 34), .ref (a 35), .int (iI d.ec)])), (a 33, eI aC 100 d.e1), (a 34, eI aC 100 d.e2), (a 35, .inr (0, [.ref (a 36), .ref (a 37)])), (a 36, eJ aC 100 d.em), (a 37, eI aC 100 d.ee), (a 38, .inr (2, [.ref (a 39), .ref (a 40), .ref (a 41), .int (iI d.pc)])), (a 39, eI aC 60 d.p1), (a 40, eI aC 60 d.p2), (a 41, .inr (0, [.ref (a 42), .ref (a 43)])), (a 42, eJ aC 60 d.pm), (a 43, eI aC 60 d.pe), (b 16, eI aC 440 f), (b 18, eI aC 1200 f1), (b 19, eI aC 1200 f2), (b 20, eI aC 1200 f3), (b 21, eI aC 1200 f4), (b 22, eI aC 1200 f5), (b 0, .inr (6, [.int (iI er), .int (iI M.rw), .int (iI M.cn), .int (iI M.en), .int (iI M.pr), .double (dM M.ko (-3)), .ref (b 1), .ref (b 2), .ref (b 3), .ref (b 4), .ref (b 5), .ref (b 6), .ref (b 7), .ref (b 8), .ref (b 9), .ref (b 10), .ref (b 11), .ref (b 12), .ref (b 13), .ref (b 14), .ref (b 15), .int (iI p2), .ref (b 16), .ref (b 17), .ref (b 18), .ref (b 19), .ref (b 20), .ref (b 21), .ref (b 22)])), (b 17, eI aC 440 z), (b 1, eD aC 192 (dA M.ka c3)), (b 2, eD aC 16 (dA M.kc c3)), (b 3, eD aC 256 (dA M.kq c3)), (b 4, eD aC 16 (dA M.kl c3)), (b 5, eD aC 16 (dA M.kh c3)), (b 6, eD aC 12 (dA M.krl c3)), (b 7, eD aC 12 (dA M.krh c3)), (b 8, eD aC 16 (dA M.kx M.xb)), (b 9, eD aC 12 (dA M.ky M.yb)), (b 10, eZ aC 192 M.ai), (b 11, eZ aC 256 M.qi), (b 12, eZ aC 16 M.li), (b 13, eZ aC 16 M.hi), (b 14, eZ aC 12 M.rli), (b 15, eZ aC 12 M.rhi)] := e9
    subst e9
    change W p l e room_1 s m #[Value.ref sb] below meth c H locs (n1 + 1) (n2 + 6) Q (F0 m 482 ls [.int (iI 3)])
    refine lv_istore (lv' := [(6, .int (iI 3)), (5, .int (iI i)), (4, .ref od), (3, .ref ou), (2, .ref (b 0)), (1, .ref (a 0)), (0, .ref sb)]) hx hb d_La_law_482 hl (by decide) rfl (fun ls hl => ?_)
    refine lv_aload_n hx hb d_La_law_484 rfl (lv_at hl 4 rfl) ?_
    refine lv_aload_n hx hb d_La_law_485 rfl (lv_at hl 6 rfl) ?_
    refine lv_iload hx hb d_La_law_486 (lv_at hl 1 rfl) ?_
    refine lv_iconst (v := iI 1) hx hb d_La_law_488 rfl ?_
    refine x_iadd hx hb d_La_law_489 ?_
    refine x_sld hx hb hXs hbl hbA hS (by omega) (by omega) d_La_law_490 ?_
    have hsc490 := sc_r xs (i + 1)
    refine lv_aload_n hx hb d_La_law_491 rfl (lv_at hl 6 rfl) ?_
    refine lv_iload hx hb d_La_law_492 (lv_at hl 1 rfl) ?_
    refine lv_iconst (v := iI 2) hx hb d_La_law_494 rfl ?_
    refine x_iadd hx hb d_La_law_495 ?_
    refine x_sld hx hb hXs hbl hbA hS (by omega) (by omega) d_La_law_496 ?_
    have hsc496 := sc_r xs (i + 2)
    refine lv_aload_n hx hb d_La_law_497 rfl (lv_at hl 6 rfl) ?_
    refine lv_iload hx hb d_La_law_498 (lv_at hl 1 rfl) ?_
    refine lv_iconst (v := iI 3) hx hb d_La_law_500 rfl ?_
    refine x_iadd hx hb d_La_law_501 ?_
    refine x_sld hx hb hXs hbl hbA hS (by omega) (by omega) d_La_law_502 ?_
    have hsc502 := sc_r xs (i + 3)
    refine x_i2d hx hb d_La_law_503 (by omega) ?_
    refine x_ldc2d hx hb 1 (-3) (by decide +kernel) hown (hts _ wk_La_55) d_La_law_504 ?_
    refine x_dmul1 hx hb d_La_law_507 (by unfold dOk; omega) (by unfold dOk; omega) (by unfold dOk; omega) ?_
    refine x_topd _ _ (sc xs (i + 3)) (-3) (congrArg (dM (sc xs (i + 3))) (show (0 : Int) + (-3) = -3 from rfl)) ?_
    refine x_callVG S (c_Mo_pair_0 l D aC b M hM er p2 (sc xs (i + 1)) (sc xs (i + 2)) (sc xs (i + 3)) (by omega) (by omega) (by omega) (fun z9 => Decidable.byContradiction (fun h9 => hok.2.1 ((hR.qi hM z9.1 z9.2).mpr h9)))) t_La_81 ⟨rfl, rfl, by decide, by decide⟩ hK hN hP hD hS [58, 62, 70] [] rfl (by decide +kernel) (fun v9 w9 hw => by rcases hw with ⟨h1, rfl, rfl⟩ | ⟨h1, h2, rfl, rfl⟩ | ⟨h1, h2, rfl, rfl⟩ <;> exact ⟨rfl, Nat.le_of_ble_eq_true rfl⟩) 0 6 rfl rfl rfl hl.1 rfl (Nat.le_of_ble_eq_true rfl) d_La_law_508 ⟨by show n1 + 1 ≤ 601024; omega, by show n2 + 6 ≤ 7293034; omega⟩ (fun v w1 ws1 H locs e9 hw hP hD hS => ?_)
    rcases hw with ⟨h1, rfl, rfl⟩ | ⟨h1, h2, rfl, rfl⟩ | ⟨h1, h2, rfl, rfl⟩
    · exfalso; omega
    · have e9 : ws1 = [(ou, eJ aC 1 o1), (od, eD aC 1 o2), (a 44, .inr (3, [.ref (a 45), .int (iI px), .int (iI pn)])), (a 45, eJ aC 6 pd), (a 46, .inr (4, [.ref (a 47), .long (lI mt), .int (iI ee)])), (a 47, eJ aC 112 fd), (a 48, .inr (4, [.ref (a 49), .long (lI mu), .int (iI eu)])), (a 49, eJ aC 112 gd), (a 0, .inr (5, [.ref (a 1), .ref (a 4), .ref (a 7), .ref (a 10), .ref (a 21), .ref (a 32), .ref (a 38), .ref (a 44), .ref (a 46), .ref (a 48)])), (a 1, .inr (0, [.ref (a 2), .ref (a 3)])), (a 2, eJ aC 1 d.om), (a 3, eI aC 1 d.oe), (a 4, .inr (0, [.ref (a 5), .ref (a 6)])), (a 5, eJ aC 1 d.nm), (a 6, eI aC 1 d.ne), (a 7, .inr (0, [.ref (a 8), .ref (a 9)])), (a 8, eJ aC 16 d.cm), (a 9, eI aC 16 d.ce), (a 10, .inr (1, [.ref (a 11), .ref (a 12), .ref (a 15), .ref (a 18), .int (iI d.rc)])), (a 11, eI aC 12 d.rl), (a 12, .inr (0, [.ref (a 13), .ref (a 14)])), (a 13, eJ aC 12 d.rlm), (a 14, eI aC 12 d.rle), (a 15, .inr (0, [.ref (a 16), .ref (a 17)])), (a 16, eJ aC 12 d.rhm), (a 17, eI aC 12 d.rhe), (a 18, .inr (0, [.ref (a 19), .ref (a 20)])), (a 19, eJ aC 12 d.rvm), (a 20, eI aC 12 d.rve), (a 21, .inr (1, [.ref (a 22), .ref (a 23), .ref (a 26), .ref (a 29), .int (iI d.cc)])), (a 22, eI aC 16 d.cl), (a 23, .inr (0, [.ref (a 24), .ref (a 25)])), (a 24, eJ aC 16 d.clm), (a 25, eI aC 16 d.cle), (a 26, .inr (0, [.ref (a 27), .ref (a 28)])), (a 27, eJ aC 16 d.chm), (a 28, eI aC 16 d.che), (a 29, .inr (0, [.ref (a 30), .ref (a 31)])), (a 30, eJ aC 16 d.cvm), (a 31, eI aC 16 d.cve), (a 32, .inr (2, [.ref (a 33), .ref (a 34), .ref (a 35), .int (iI d.ec)])), (a 33, eI aC 100 d.e1), (a 34, eI aC 100 d.e2), (a 35, .inr (0, [.ref (a 36), .ref (a 37)])), (a 36, eJ aC 100 d.em), (a 37, eI aC 100 d.ee), (a 38, .inr (2, [.ref (a 39), .ref (a 40), .ref (a 41), .int (iI d.pc)])), (a 39, eI aC 60 d.p1), (a 40, eI aC 60 d.p2), (a 41, .inr (0, [.ref (a 42), .ref (a 43)])), (a 42, eJ aC 60 d.pm), (a 43, eI aC 60 d.pe), (b 16, eI aC 440 f), (b 18, eI aC 1200 f1), (b 19, eI aC 1200 f2), (b 20, eI aC 1200 f3), (b 21, eI aC 1200 f4), (b 22, eI aC 1200 f5), (b 0, .inr (6, [.int (iI 3), .int (iI M.rw), .int (iI M.cn), .int (iI M.en), .int (iI M.pr), .double (dM M.ko (-3)), .ref (b 1), .ref (b 2), .ref (b 3), .ref (b 4), .ref (b 5), .ref (b 6), .ref (b 7), .ref (b 8), .ref (b 9), .ref (b 10), .ref (b 11), .ref (b 12), .ref (b 13), .ref (b 14), .ref (b 15), .int (iI p2), .ref (b 16), .ref (b 17), .ref (b 18), .ref (b 19), .ref (b 20), .ref (b 21), .ref (b 22)])), (b 17, eI aC 440 z), (b 1, eD aC 192 (dA M.ka c3)), (b 2, eD aC 16 (dA M.kc c3)), (b 3, eD aC 256 (dA M.kq c3)), (b 4, eD aC 16 (dA M.kl c3)), (b 5, eD aC 16 (dA M.kh c3)), (b 6, eD aC 12 (dA M.krl c3)), (b 7, eD aC 12 (dA M.krh c3)), (b 8, eD aC 16 (dA M.kx M.xb)), (b 9, eD aC 12 (dA M.ky M.yb)), (b 10, eZ aC 192 M.ai), (b 11, eZ aC 256 M.qi), (b 12, eZ aC 16 M.li), (b 13, eZ aC 16 M.hi), (b 14, eZ aC 12 M.rli), (b 15, eZ aC 12 M.rhi)] := e9
      subst e9
      change W p l e room_1 s m #[Value.ref sb] below meth c H locs (n1 + 1) (n2 + 6) Q (F0 m 511 ls [.int (iI 0)])
      refine lv_istore (lv' := [(7, .int (iI 0)), (6, .int (iI 3)), (5, .int (iI i)), (4, .ref od), (3, .ref ou), (2, .ref (b 0)), (1, .ref (a 0)), (0, .ref sb)]) hx hb d_La_law_511 hl (by decide) rfl (fun ls hl => ?_)
      refine lv_aload_n hx hb d_La_law_513 rfl (lv_at hl 5 rfl) ?_
      refine y_callV1 (V := .int (iI 3)) S (c_Mo_thrown l D aC b M 3 p2) t_La_63 (rm_9 (by decide) (by decide)) hK hN hP [58] rfl 0 6 rfl rfl rfl hl.1 rfl (Nat.le_of_ble_eq_true rfl) d_La_law_514 ⟨by show n1 + 1 ≤ 601024; omega, by show n2 + 6 ≤ 7293034; omega⟩ ?_
      refine lv_iload hx hb d_La_law_517 (lv_at hl 1 rfl) ?_
      refine x_icmp_eq (tgt := 524) hx hb d_La_law_519 (by decide) (by omega) (by omega) (fun c_519 => ?_) (fun c_519 => (by exfalso; omega))
      refine lv_iload hx hb d_La_law_524 (lv_at hl 1 rfl) ?_
      refine x_if_ne (tgt := 541) hx hb d_La_law_526 (by decide) (by decide) (fun c_526 => ?_) (fun c_526 => (by exfalso; omega))
      refine lv_goto (tgt := 841) hx hb d_La_law_541 (by decide) ?_
      refine W.widen (k := n1 + 2) (n := n2 + 12) (by omega) (by omega) ?_
      exact kk d M pd px pn fd mt ee gd mu eu 3 p2 f f1 f2 f3 f4 f5 z o1 o2 _ _ _ (hd) (hM) (hR) hP hD hS (lv_sub hl [2, 3, 4, 5, 6, 7] rfl)
    · exfalso; omega
set_option maxHeartbeats 8000000 in
set_option maxRecDepth 100000 in
theorem law_5 {p : Program} {l : Launch} {e : Env} {s : State} {m : MethodId} {below : List Frame} {meth : Method} {c : Code} {D : va_G} {aC : Nat → ClassId} {sa : Nat → Nat} {a b : Nat → Nat} {ou od sb L : Nat} {xs : Nat → Int32} {Q : State → Prop} (C0 : LC p l s m meth c D aC sa sb L xs) {i : Int} {n1 n2 : Nat} (hi : 0 ≤ i ∧ i + 5 ≤ (L : Int)) (hn1 : n1 + 2 ≤ 601024) (hn2 : n2 + 12 ≤ 7293034) (kk : LK p l e s m below meth c D aC a b ou od sb Q i 841 (n1 + 2) (n2 + 12)) : LK p l e s m below meth c D aC a b ou od sb Q i 544 n1 n2 := by
  intro d M pd px pn fd mt ee gd mu eu er p2 f f1 f2 f3 f4 f5 z o1 o2 H locs ls hd hM hR hP hD hS hl
  obtain ⟨S, hXs, hbl, hL9, hst, hK, hN, hX, hNC⟩ := C0
  obtain ⟨hx, hb, hml, hown, hts⟩ := id S
  have hbA : ¬ (fun q : Nat => s.heap.size ≤ q) sb := Nat.not_le.mpr hbl
  have hn := hR.n
  have hrw := hM.rw
  have hcn := hM.cn
  have hen := hM.en
  have hpr := hM.pr
  refine lv_aload_n hx hb d_La_law_544 rfl (lv_at hl 4 rfl) ?_
  refine lv_aload_n hx hb d_La_law_545 rfl (lv_at hl 5 rfl) ?_
  refine lv_iload hx hb d_La_law_546 (lv_at hl 0 rfl) ?_
  refine lv_iconst (v := iI 1) hx hb d_La_law_548 rfl ?_
  refine x_iadd hx hb d_La_law_549 ?_
  refine x_sld hx hb hXs hbl hbA hS (by omega) (by omega) d_La_law_550 ?_
  have hsc550 := sc_r xs (i + 1)
  refine lv_aload_n hx hb d_La_law_551 rfl (lv_at hl 5 rfl) ?_
  refine lv_iload hx hb d_La_law_552 (lv_at hl 0 rfl) ?_
  refine lv_iconst (v := iI 2) hx hb d_La_law_554 rfl ?_
  refine x_iadd hx hb d_La_law_555 ?_
  refine x_sld hx hb hXs hbl hbA hS (by omega) (by omega) d_La_law_556 ?_
  have hsc556 := sc_r xs (i + 2)
  refine x_i2d hx hb d_La_law_557 (by omega) ?_
  refine x_ldc2d hx hb 1 (-3) (by decide +kernel) hown (hts _ wk_La_55) d_La_law_558 ?_
  refine x_dmul1 hx hb d_La_law_561 (by unfold dOk; omega) (by unfold dOk; omega) (by unfold dOk; omega) ?_
  refine x_topd _ _ (sc xs (i + 2)) (-3) (congrArg (dM (sc xs (i + 2))) (show (0 : Int) + (-3) = -3 from rfl)) ?_
  refine lv_aload_n hx hb d_La_law_562 rfl (lv_at hl 5 rfl) ?_
  refine lv_iload hx hb d_La_law_563 (lv_at hl 0 rfl) ?_
  refine lv_iconst (v := iI 3) hx hb d_La_law_565 rfl ?_
  refine x_iadd hx hb d_La_law_566 ?_
  refine x_sld hx hb hXs hbl hbA hS (by omega) (by omega) d_La_law_567 ?_
  have hsc567 := sc_r xs (i + 3)
  refine x_callW S (c_La_x l D aC sa hst a d hd (sc xs (i + 1)) (by omega) (sc xs (i + 2)) (by omega) (sc xs (i + 3)) (by omega)) tl_82 ⟨rfl, rfl, by decide, by decide⟩ hK hN hX hNC hP hD hS [8, 29, 30, 37, 38, 39] [] rfl (by decide +kernel) (fun v9 w9 hw => by rcases hw with ⟨rfl, hok, rfl⟩ | ⟨rfl, hok, rfl⟩ | ⟨rfl, hok, rfl⟩ <;> exact ⟨rfl, Nat.le_of_ble_eq_true rfl⟩) rfl hl.1 rfl (Nat.le_of_ble_eq_true rfl) d_La_law_568 ⟨by show n1 + 1 ≤ 601024; omega, by show n2 + 6 ≤ 7293034; omega⟩ (fun v w1 ws1 H locs e9 hw hP hD hS => ?_)
  rcases hw with ⟨rfl, hok, rfl⟩ | ⟨rfl, hok, rfl⟩ | ⟨rfl, hok, rfl⟩
  · have e9 : ws1 = [(ou, eJ aC 1 o1), (od, eD aC 1 o2), (a 44, .inr (3, [.ref (a 45), .int (iI px), .int (iI pn)])), (a 45, eJ aC 6 pd), (a 46, .inr (4, [.ref (a 47), .long (lI mt), .int (iI ee)])), (a 47, eJ aC 112 fd), (a 48, .inr (4, [.ref (a 49), .long (lI mu), .int (iI eu)])), (a 49, eJ aC 112 gd), (a 0, .inr (5, [.ref (a 1), .ref (a 4), .ref (a 7), .ref (a 10), .ref (a 21), .ref (a 32), .ref (a 38), .ref (a 44), .ref (a 46), .ref (a 48)])), (a 1, .inr (0, [.ref (a 2), .ref (a 3)])), (a 2, eJ aC 1 d.om), (a 3, eI aC 1 d.oe), (a 4, .inr (0, [.ref (a 5), .ref (a 6)])), (a 5, eJ aC 1 d.nm), (a 6, eI aC 1 d.ne), (a 7, .inr (0, [.ref (a 8), .ref (a 9)])), (a 8, eJ aC 16 d.cm), (a 9, eI aC 16 d.ce), (a 10, .inr (1, [.ref (a 11), .ref (a 12), .ref (a 15), .ref (a 18), .int (iI d.rc)])), (a 11, eI aC 12 d.rl), (a 12, .inr (0, [.ref (a 13), .ref (a 14)])), (a 13, eJ aC 12 d.rlm), (a 14, eI aC 12 d.rle), (a 15, .inr (0, [.ref (a 16), .ref (a 17)])), (a 16, eJ aC 12 d.rhm), (a 17, eI aC 12 d.rhe), (a 18, .inr (0, [.ref (a 19), .ref (a 20)])), (a 19, eJ aC 12 d.rvm), (a 20, eI aC 12 d.rve), (a 21, .inr (1, [.ref (a 22), .ref (a 23), .ref (a 26), .ref (a 29), .int (iI d.cc)])), (a 22, eI aC 16 d.cl), (a 23, .inr (0, [.ref (a 24), .ref (a 25)])), (a 24, eJ aC 16 d.clm), (a 25, eI aC 16 d.cle), (a 26, .inr (0, [.ref (a 27), .ref (a 28)])), (a 27, eJ aC 16 d.chm), (a 28, eI aC 16 d.che), (a 29, .inr (0, [.ref (a 30), .ref (a 31)])), (a 30, eJ aC 16 (updI d.cvm (sc xs (i + 1)) ((sc xs (i + 2)) * 2 ^ nt (sc xs (i + 2))))), (a 31, eI aC 16 (updI d.cve (sc xs (i + 1)) (nx (sc xs (i + 2)) (-3) (sc xs (i + 3))))), (a 32, .inr (2, [.ref (a 33), .ref (a 34), .ref (a 35), .int (iI d.ec)])), (a 33, eI aC 100 d.e1), (a 34, eI aC 100 d.e2), (a 35, .inr (0, [.ref (a 36), .ref (a 37)])), (a 36, eJ aC 100 d.em), (a 37, eI aC 100 d.ee), (a 38, .inr (2, [.ref (a 39), .ref (a 40), .ref (a 41), .int (iI d.pc)])), (a 39, eI aC 60 d.p1), (a 40, eI aC 60 d.p2), (a 41, .inr (0, [.ref (a 42), .ref (a 43)])), (a 42, eJ aC 60 d.pm), (a 43, eI aC 60 d.pe), (b 16, eI aC 440 f), (b 18, eI aC 1200 f1), (b 19, eI aC 1200 f2), (b 20, eI aC 1200 f3), (b 21, eI aC 1200 f4), (b 22, eI aC 1200 f5), (b 0, .inr (6, [.int (iI er), .int (iI M.rw), .int (iI M.cn), .int (iI M.en), .int (iI M.pr), .double (dM M.ko (-3)), .ref (b 1), .ref (b 2), .ref (b 3), .ref (b 4), .ref (b 5), .ref (b 6), .ref (b 7), .ref (b 8), .ref (b 9), .ref (b 10), .ref (b 11), .ref (b 12), .ref (b 13), .ref (b 14), .ref (b 15), .int (iI p2), .ref (b 16), .ref (b 17), .ref (b 18), .ref (b 19), .ref (b 20), .ref (b 21), .ref (b 22)])), (b 17, eI aC 440 z), (b 1, eD aC 192 (dA M.ka c3)), (b 2, eD aC 16 (dA M.kc c3)), (b 3, eD aC 256 (dA M.kq c3)), (b 4, eD aC 16 (dA M.kl c3)), (b 5, eD aC 16 (dA M.kh c3)), (b 6, eD aC 12 (dA M.krl c3)), (b 7, eD aC 12 (dA M.krh c3)), (b 8, eD aC 16 (dA M.kx M.xb)), (b 9, eD aC 12 (dA M.ky M.yb)), (b 10, eZ aC 192 M.ai), (b 11, eZ aC 256 M.qi), (b 12, eZ aC 16 M.li), (b 13, eZ aC 16 M.hi), (b 14, eZ aC 12 M.rli), (b 15, eZ aC 12 M.rhi)] := e9
    subst e9
    change W p l e room_1 s m #[Value.ref sb] below meth c H locs (n1 + 1) (n2 + 6) Q (F0 m 571 ls [.int (iI 0)])
    refine lv_istore (lv' := [(6, .int (iI 0)), (5, .int (iI i)), (4, .ref od), (3, .ref ou), (2, .ref (b 0)), (1, .ref (a 0)), (0, .ref sb)]) hx hb d_La_law_571 hl (by decide) rfl (fun ls hl => ?_)
    refine lv_aload_n hx hb d_La_law_573 rfl (lv_at hl 4 rfl) ?_
    refine lv_aload_n hx hb d_La_law_574 rfl (lv_at hl 6 rfl) ?_
    refine lv_iload hx hb d_La_law_575 (lv_at hl 1 rfl) ?_
    refine lv_iconst (v := iI 1) hx hb d_La_law_577 rfl ?_
    refine x_iadd hx hb d_La_law_578 ?_
    refine x_sld hx hb hXs hbl hbA hS (by omega) (by omega) d_La_law_579 ?_
    have hsc579 := sc_r xs (i + 1)
    refine lv_aload_n hx hb d_La_law_580 rfl (lv_at hl 6 rfl) ?_
    refine lv_iload hx hb d_La_law_581 (lv_at hl 1 rfl) ?_
    refine lv_iconst (v := iI 2) hx hb d_La_law_583 rfl ?_
    refine x_iadd hx hb d_La_law_584 ?_
    refine x_sld hx hb hXs hbl hbA hS (by omega) (by omega) d_La_law_585 ?_
    have hsc585 := sc_r xs (i + 2)
    refine x_i2d hx hb d_La_law_586 (by omega) ?_
    refine x_ldc2d hx hb 1 (-3) (by decide +kernel) hown (hts _ wk_La_55) d_La_law_587 ?_
    refine x_dmul1 hx hb d_La_law_590 (by unfold dOk; omega) (by unfold dOk; omega) (by unfold dOk; omega) ?_
    refine x_topd _ _ (sc xs (i + 2)) (-3) (congrArg (dM (sc xs (i + 2))) (show (0 : Int) + (-3) = -3 from rfl)) ?_
    refine lv_aload_n hx hb d_La_law_591 rfl (lv_at hl 6 rfl) ?_
    refine lv_iload hx hb d_La_law_592 (lv_at hl 1 rfl) ?_
    refine lv_iconst (v := iI 3) hx hb d_La_law_594 rfl ?_
    refine x_iadd hx hb d_La_law_595 ?_
    refine x_sld hx hb hXs hbl hbA hS (by omega) (by omega) d_La_law_596 ?_
    have hsc596 := sc_r xs (i + 3)
    refine x_callVG S (c_Mo_x l D aC b M hM er p2 (sc xs (i + 1)) (sc xs (i + 2)) (by omega) (by omega) (sc xs (i + 3)) (by omega)) t_La_85 ⟨rfl, rfl, by decide, by decide⟩ hK hN hP hD hS [58, 67] [] rfl (by decide +kernel) (fun v9 w9 hw => by rcases hw with ⟨rfl, ⟨h1, rfl⟩ | ⟨h1, h2, rfl⟩ | ⟨h1, h2, rfl⟩⟩ <;> exact ⟨rfl, Nat.le_of_ble_eq_true rfl⟩) 0 6 rfl rfl rfl hl.1 rfl (Nat.le_of_ble_eq_true rfl) d_La_law_597 ⟨by show n1 + 1 ≤ 601024; omega, by show n2 + 6 ≤ 7293034; omega⟩ (fun v w1 ws1 H locs e9 hw hP hD hS => ?_)
    rcases hw with ⟨rfl, ⟨h1, rfl⟩ | ⟨h1, h2, rfl⟩ | ⟨h1, h2, rfl⟩⟩
    · exfalso; omega
    · exfalso; omega
    · have e9 : ws1 = [(ou, eJ aC 1 o1), (od, eD aC 1 o2), (a 44, .inr (3, [.ref (a 45), .int (iI px), .int (iI pn)])), (a 45, eJ aC 6 pd), (a 46, .inr (4, [.ref (a 47), .long (lI mt), .int (iI ee)])), (a 47, eJ aC 112 fd), (a 48, .inr (4, [.ref (a 49), .long (lI mu), .int (iI eu)])), (a 49, eJ aC 112 gd), (a 0, .inr (5, [.ref (a 1), .ref (a 4), .ref (a 7), .ref (a 10), .ref (a 21), .ref (a 32), .ref (a 38), .ref (a 44), .ref (a 46), .ref (a 48)])), (a 1, .inr (0, [.ref (a 2), .ref (a 3)])), (a 2, eJ aC 1 d.om), (a 3, eI aC 1 d.oe), (a 4, .inr (0, [.ref (a 5), .ref (a 6)])), (a 5, eJ aC 1 d.nm), (a 6, eI aC 1 d.ne), (a 7, .inr (0, [.ref (a 8), .ref (a 9)])), (a 8, eJ aC 16 d.cm), (a 9, eI aC 16 d.ce), (a 10, .inr (1, [.ref (a 11), .ref (a 12), .ref (a 15), .ref (a 18), .int (iI d.rc)])), (a 11, eI aC 12 d.rl), (a 12, .inr (0, [.ref (a 13), .ref (a 14)])), (a 13, eJ aC 12 d.rlm), (a 14, eI aC 12 d.rle), (a 15, .inr (0, [.ref (a 16), .ref (a 17)])), (a 16, eJ aC 12 d.rhm), (a 17, eI aC 12 d.rhe), (a 18, .inr (0, [.ref (a 19), .ref (a 20)])), (a 19, eJ aC 12 d.rvm), (a 20, eI aC 12 d.rve), (a 21, .inr (1, [.ref (a 22), .ref (a 23), .ref (a 26), .ref (a 29), .int (iI d.cc)])), (a 22, eI aC 16 d.cl), (a 23, .inr (0, [.ref (a 24), .ref (a 25)])), (a 24, eJ aC 16 d.clm), (a 25, eI aC 16 d.cle), (a 26, .inr (0, [.ref (a 27), .ref (a 28)])), (a 27, eJ aC 16 d.chm), (a 28, eI aC 16 d.che), (a 29, .inr (0, [.ref (a 30), .ref (a 31)])), (a 30, eJ aC 16 (updI d.cvm (sc xs (i + 1)) ((sc xs (i + 2)) * 2 ^ nt (sc xs (i + 2))))), (a 31, eI aC 16 (updI d.cve (sc xs (i + 1)) (nx (sc xs (i + 2)) (-3) (sc xs (i + 3))))), (a 32, .inr (2, [.ref (a 33), .ref (a 34), .ref (a 35), .int (iI d.ec)])), (a 33, eI aC 100 d.e1), (a 34, eI aC 100 d.e2), (a 35, .inr (0, [.ref (a 36), .ref (a 37)])), (a 36, eJ aC 100 d.em), (a 37, eI aC 100 d.ee), (a 38, .inr (2, [.ref (a 39), .ref (a 40), .ref (a 41), .int (iI d.pc)])), (a 39, eI aC 60 d.p1), (a 40, eI aC 60 d.p2), (a 41, .inr (0, [.ref (a 42), .ref (a 43)])), (a 42, eJ aC 60 d.pm), (a 43, eI aC 60 d.pe), (b 16, eI aC 440 f), (b 18, eI aC 1200 f1), (b 19, eI aC 1200 f2), (b 20, eI aC 1200 f3), (b 21, eI aC 1200 f4), (b 22, eI aC 1200 f5), (b 0, .inr (6, [.int (iI 0), .int (iI M.rw), .int (iI M.cn), .int (iI M.en), .int (iI M.pr), .double (dM M.ko (-3)), .ref (b 1), .ref (b 2), .ref (b 3), .ref (b 4), .ref (b 5), .ref (b 6), .ref (b 7), .ref (b 8), .ref (b 9), .ref (b 10), .ref (b 11), .ref (b 12), .ref (b 13), .ref (b 14), .ref (b 15), .int (iI p2), .ref (b 16), .ref (b 17), .ref (b 18), .ref (b 19), .ref (b 20), .ref (b 21), .ref (b 22)])), (b 17, eI aC 440 z), (b 1, eD aC 192 (dA M.ka c3)), (b 2, eD aC 16 (dA M.kc c3)), (b 3, eD aC 256 (dA M.kq c3)), (b 4, eD aC 16 (dA M.kl c3)), (b 5, eD aC 16 (dA M.kh c3)), (b 6, eD aC 12 (dA M.krl c3)), (b 7, eD aC 12 (dA M.krh c3)), (b 8, eD aC 16 (dA (updI M.kx (sc xs (i + 1)) (sc xs (i + 2))) (updI M.xb (sc xs (i + 1)) (-3 + (sc xs (i + 3)))))), (b 9, eD aC 12 (dA M.ky M.yb)), (b 10, eZ aC 192 M.ai), (b 11, eZ aC 256 M.qi), (b 12, eZ aC 16 M.li), (b 13, eZ aC 16 M.hi), (b 14, eZ aC 12 M.rli), (b 15, eZ aC 12 M.rhi)] := e9
      subst e9
      change W p l e room_1 s m #[Value.ref sb] below meth c H locs (n1 + 1) (n2 + 6) Q (F0 m 600 ls [])
      refine lv_aload_n hx hb d_La_law_600 rfl (lv_at hl 4 rfl) ?_
      refine y_callV1 (V := .int (iI 0)) S (c_Mo_thrown l D aC b (mSX M (sc xs (i + 1)) (sc xs (i + 2)) (sc xs (i + 3))) 0 p2) t_La_63 (rm_9 (by decide) (by decide)) hK hN hP [58] rfl 0 6 rfl rfl rfl hl.1 rfl (Nat.le_of_ble_eq_true rfl) d_La_law_601 ⟨by show n1 + 1 ≤ 601024; omega, by show n2 + 6 ≤ 7293034; omega⟩ ?_
      refine lv_iload hx hb d_La_law_604 (lv_at hl 0 rfl) ?_
      refine x_icmp_eq (tgt := 611) hx hb d_La_law_606 (by decide) (by omega) (by omega) (fun c_606 => ?_) (fun c_606 => (by exfalso; omega))
      refine lv_goto (tgt := 841) hx hb d_La_law_611 (by decide) ?_
      refine W.widen (k := n1 + 2) (n := n2 + 12) (by omega) (by omega) ?_
      exact kk (dSX d (sc xs (i + 1)) (sc xs (i + 2)) (sc xs (i + 3))) (mSX M (sc xs (i + 1)) (sc xs (i + 2)) (sc xs (i + 3))) pd px pn fd mt ee gd mu eu 0 p2 f f1 f2 f3 f4 f5 z o1 o2 _ _ _ (DI_SX hd hM hR (by omega) (by omega)) (MI_SX hM (by omega) (by omega)) (Rel_SX hd hM hR (by omega) (by omega)) hP hD hS (lv_sub hl [1, 2, 3, 4, 5, 6] rfl)
  · have e9 : ws1 = [(ou, eJ aC 1 o1), (od, eD aC 1 o2), (a 44, .inr (3, [.ref (a 45), .int (iI px), .int (iI pn)])), (a 45, eJ aC 6 pd), (a 46, .inr (4, [.ref (a 47), .long (lI mt), .int (iI ee)])), (a 47, eJ aC 112 fd), (a 48, .inr (4, [.ref (a 49), .long (lI mu), .int (iI eu)])), (a 49, eJ aC 112 gd), (a 0, .inr (5, [.ref (a 1), .ref (a 4), .ref (a 7), .ref (a 10), .ref (a 21), .ref (a 32), .ref (a 38), .ref (a 44), .ref (a 46), .ref (a 48)])), (a 1, .inr (0, [.ref (a 2), .ref (a 3)])), (a 2, eJ aC 1 d.om), (a 3, eI aC 1 d.oe), (a 4, .inr (0, [.ref (a 5), .ref (a 6)])), (a 5, eJ aC 1 d.nm), (a 6, eI aC 1 d.ne), (a 7, .inr (0, [.ref (a 8), .ref (a 9)])), (a 8, eJ aC 16 d.cm), (a 9, eI aC 16 d.ce), (a 10, .inr (1, [.ref (a 11), .ref (a 12), .ref (a 15), .ref (a 18), .int (iI d.rc)])), (a 11, eI aC 12 d.rl), (a 12, .inr (0, [.ref (a 13), .ref (a 14)])), (a 13, eJ aC 12 d.rlm), (a 14, eI aC 12 d.rle), (a 15, .inr (0, [.ref (a 16), .ref (a 17)])), (a 16, eJ aC 12 d.rhm), (a 17, eI aC 12 d.rhe), (a 18, .inr (0, [.ref (a 19), .ref (a 20)])), (a 19, eJ aC 12 d.rvm), (a 20, eI aC 12 d.rve), (a 21, .inr (1, [.ref (a 22), .ref (a 23), .ref (a 26), .ref (a 29), .int (iI d.cc)])), (a 22, eI aC 16 d.cl), (a 23, .inr (0, [.ref (a 24), .ref (a 25)])), (a 24, eJ aC 16 d.clm), (a 25, eI aC 16 d.cle), (a 26, .inr (0, [.ref (a 27), .ref (a 28)])), (a 27, eJ aC 16 d.chm), (a 28, eI aC 16 d.che), (a 29, .inr (0, [.ref (a 30), .ref (a 31)])), (a 30, eJ aC 16 d.cvm), (a 31, eI aC 16 d.cve), (a 32, .inr (2, [.ref (a 33), .ref (a 34), .ref (a 35), .int (iI d.ec)])), (a 33, eI aC 100 d.e1), (a 34, eI aC 100 d.e2), (a 35, .inr (0, [.ref (a 36), .ref (a 37)])), (a 36, eJ aC 100 d.em), (a 37, eI aC 100 d.ee), (a 38, .inr (2, [.ref (a 39), .ref (a 40), .ref (a 41), .int (iI d.pc)])), (a 39, eI aC 60 d.p1), (a 40, eI aC 60 d.p2), (a 41, .inr (0, [.ref (a 42), .ref (a 43)])), (a 42, eJ aC 60 d.pm), (a 43, eI aC 60 d.pe), (b 16, eI aC 440 f), (b 18, eI aC 1200 f1), (b 19, eI aC 1200 f2), (b 20, eI aC 1200 f3), (b 21, eI aC 1200 f4), (b 22, eI aC 1200 f5), (b 0, .inr (6, [.int (iI er), .int (iI M.rw), .int (iI M.cn), .int (iI M.en), .int (iI M.pr), .double (dM M.ko (-3)), .ref (b 1), .ref (b 2), .ref (b 3), .ref (b 4), .ref (b 5), .ref (b 6), .ref (b 7), .ref (b 8), .ref (b 9), .ref (b 10), .ref (b 11), .ref (b 12), .ref (b 13), .ref (b 14), .ref (b 15), .int (iI p2), .ref (b 16), .ref (b 17), .ref (b 18), .ref (b 19), .ref (b 20), .ref (b 21), .ref (b 22)])), (b 17, eI aC 440 z), (b 1, eD aC 192 (dA M.ka c3)), (b 2, eD aC 16 (dA M.kc c3)), (b 3, eD aC 256 (dA M.kq c3)), (b 4, eD aC 16 (dA M.kl c3)), (b 5, eD aC 16 (dA M.kh c3)), (b 6, eD aC 12 (dA M.krl c3)), (b 7, eD aC 12 (dA M.krh c3)), (b 8, eD aC 16 (dA M.kx M.xb)), (b 9, eD aC 12 (dA M.ky M.yb)), (b 10, eZ aC 192 M.ai), (b 11, eZ aC 256 M.qi), (b 12, eZ aC 16 M.li), (b 13, eZ aC 16 M.hi), (b 14, eZ aC 12 M.rli), (b 15, eZ aC 12 M.rhi)] := e9
    subst e9
    change W p l e room_1 s m #[Value.ref sb] below meth c H locs (n1 + 1) (n2 + 6) Q (F0 m 571 ls [.int (iI 1)])
    refine lv_istore (lv' := [(6, .int (iI 1)), (5, .int (iI i)), (4, .ref od), (3, .ref ou), (2, .ref (b 0)), (1, .ref (a 0)), (0, .ref sb)]) hx hb d_La_law_571 hl (by decide) rfl (fun ls hl => ?_)
    refine lv_aload_n hx hb d_La_law_573 rfl (lv_at hl 4 rfl) ?_
    refine lv_aload_n hx hb d_La_law_574 rfl (lv_at hl 6 rfl) ?_
    refine lv_iload hx hb d_La_law_575 (lv_at hl 1 rfl) ?_
    refine lv_iconst (v := iI 1) hx hb d_La_law_577 rfl ?_
    refine x_iadd hx hb d_La_law_578 ?_
    refine x_sld hx hb hXs hbl hbA hS (by omega) (by omega) d_La_law_579 ?_
    have hsc579 := sc_r xs (i + 1)
    refine lv_aload_n hx hb d_La_law_580 rfl (lv_at hl 6 rfl) ?_
    refine lv_iload hx hb d_La_law_581 (lv_at hl 1 rfl) ?_
    refine lv_iconst (v := iI 2) hx hb d_La_law_583 rfl ?_
    refine x_iadd hx hb d_La_law_584 ?_
    refine x_sld hx hb hXs hbl hbA hS (by omega) (by omega) d_La_law_585 ?_
    have hsc585 := sc_r xs (i + 2)
    refine x_i2d hx hb d_La_law_586 (by omega) ?_
    refine x_ldc2d hx hb 1 (-3) (by decide +kernel) hown (hts _ wk_La_55) d_La_law_587 ?_
    refine x_dmul1 hx hb d_La_law_590 (by unfold dOk; omega) (by unfold dOk; omega) (by unfold dOk; omega) ?_
    refine x_topd _ _ (sc xs (i + 2)) (-3) (congrArg (dM (sc xs (i + 2))) (show (0 : Int) + (-3) = -3 from rfl)) ?_
    refine lv_aload_n hx hb d_La_law_591 rfl (lv_at hl 6 rfl) ?_
    refine lv_iload hx hb d_La_law_592 (lv_at hl 1 rfl) ?_
    refine lv_iconst (v := iI 3) hx hb d_La_law_594 rfl ?_
    refine x_iadd hx hb d_La_law_595 ?_
    refine x_sld hx hb hXs hbl hbA hS (by omega) (by omega) d_La_law_596 ?_
    have hsc596 := sc_r xs (i + 3)
    refine x_callVG S (c_Mo_x l D aC b M hM er p2 (sc xs (i + 1)) (sc xs (i + 2)) (by omega) (by omega) (sc xs (i + 3)) (by omega)) t_La_85 ⟨rfl, rfl, by decide, by decide⟩ hK hN hP hD hS [58, 67] [] rfl (by decide +kernel) (fun v9 w9 hw => by rcases hw with ⟨rfl, ⟨h1, rfl⟩ | ⟨h1, h2, rfl⟩ | ⟨h1, h2, rfl⟩⟩ <;> exact ⟨rfl, Nat.le_of_ble_eq_true rfl⟩) 0 6 rfl rfl rfl hl.1 rfl (Nat.le_of_ble_eq_true rfl) d_La_law_597 ⟨by show n1 + 1 ≤ 601024; omega, by show n2 + 6 ≤ 7293034; omega⟩ (fun v w1 ws1 H locs e9 hw hP hD hS => ?_)
    rcases hw with ⟨rfl, ⟨h1, rfl⟩ | ⟨h1, h2, rfl⟩ | ⟨h1, h2, rfl⟩⟩
    · have e9 : ws1 = [(ou, eJ aC 1 o1), (od, eD aC 1 o2), (a 44, .inr (3, [.ref (a 45), .int (iI px), .int (iI pn)])), (a 45, eJ aC 6 pd), (a 46, .inr (4, [.ref (a 47), .long (lI mt), .int (iI ee)])), (a 47, eJ aC 112 fd), (a 48, .inr (4, [.ref (a 49), .long (lI mu), .int (iI eu)])), (a 49, eJ aC 112 gd), (a 0, .inr (5, [.ref (a 1), .ref (a 4), .ref (a 7), .ref (a 10), .ref (a 21), .ref (a 32), .ref (a 38), .ref (a 44), .ref (a 46), .ref (a 48)])), (a 1, .inr (0, [.ref (a 2), .ref (a 3)])), (a 2, eJ aC 1 d.om), (a 3, eI aC 1 d.oe), (a 4, .inr (0, [.ref (a 5), .ref (a 6)])), (a 5, eJ aC 1 d.nm), (a 6, eI aC 1 d.ne), (a 7, .inr (0, [.ref (a 8), .ref (a 9)])), (a 8, eJ aC 16 d.cm), (a 9, eI aC 16 d.ce), (a 10, .inr (1, [.ref (a 11), .ref (a 12), .ref (a 15), .ref (a 18), .int (iI d.rc)])), (a 11, eI aC 12 d.rl), (a 12, .inr (0, [.ref (a 13), .ref (a 14)])), (a 13, eJ aC 12 d.rlm), (a 14, eI aC 12 d.rle), (a 15, .inr (0, [.ref (a 16), .ref (a 17)])), (a 16, eJ aC 12 d.rhm), (a 17, eI aC 12 d.rhe), (a 18, .inr (0, [.ref (a 19), .ref (a 20)])), (a 19, eJ aC 12 d.rvm), (a 20, eI aC 12 d.rve), (a 21, .inr (1, [.ref (a 22), .ref (a 23), .ref (a 26), .ref (a 29), .int (iI d.cc)])), (a 22, eI aC 16 d.cl), (a 23, .inr (0, [.ref (a 24), .ref (a 25)])), (a 24, eJ aC 16 d.clm), (a 25, eI aC 16 d.cle), (a 26, .inr (0, [.ref (a 27), .ref (a 28)])), (a 27, eJ aC 16 d.chm), (a 28, eI aC 16 d.che), (a 29, .inr (0, [.ref (a 30), .ref (a 31)])), (a 30, eJ aC 16 d.cvm), (a 31, eI aC 16 d.cve), (a 32, .inr (2, [.ref (a 33), .ref (a 34), .ref (a 35), .int (iI d.ec)])), (a 33, eI aC 100 d.e1), (a 34, eI aC 100 d.e2), (a 35, .inr (0, [.ref (a 36), .ref (a 37)])), (a 36, eJ aC 100 d.em), (a 37, eI aC 100 d.ee), (a 38, .inr (2, [.ref (a 39), .ref (a 40), .ref (a 41), .int (iI d.pc)])), (a 39, eI aC 60 d.p1), (a 40, eI aC 60 d.p2), (a 41, .inr (0, [.ref (a 42), .ref (a 43)])), (a 42, eJ aC 60 d.pm), (a 43, eI aC 60 d.pe), (b 16, eI aC 440 f), (b 18, eI aC 1200 f1), (b 19, eI aC 1200 f2), (b 20, eI aC 1200 f3), (b 21, eI aC 1200 f4), (b 22, eI aC 1200 f5), (b 0, .inr (6, [.int (iI 1), .int (iI M.rw), .int (iI M.cn), .int (iI M.en), .int (iI M.pr), .double (dM M.ko (-3)), .ref (b 1), .ref (b 2), .ref (b 3), .ref (b 4), .ref (b 5), .ref (b 6), .ref (b 7), .ref (b 8), .ref (b 9), .ref (b 10), .ref (b 11), .ref (b 12), .ref (b 13), .ref (b 14), .ref (b 15), .int (iI p2), .ref (b 16), .ref (b 17), .ref (b 18), .ref (b 19), .ref (b 20), .ref (b 21), .ref (b 22)])), (b 17, eI aC 440 z), (b 1, eD aC 192 (dA M.ka c3)), (b 2, eD aC 16 (dA M.kc c3)), (b 3, eD aC 256 (dA M.kq c3)), (b 4, eD aC 16 (dA M.kl c3)), (b 5, eD aC 16 (dA M.kh c3)), (b 6, eD aC 12 (dA M.krl c3)), (b 7, eD aC 12 (dA M.krh c3)), (b 8, eD aC 16 (dA M.kx M.xb)), (b 9, eD aC 12 (dA M.ky M.yb)), (b 10, eZ aC 192 M.ai), (b 11, eZ aC 256 M.qi), (b 12, eZ aC 16 M.li), (b 13, eZ aC 16 M.hi), (b 14, eZ aC 12 M.rli), (b 15, eZ aC 12 M.rhi)] := e9
      subst e9
      change W p l e room_1 s m #[Value.ref sb] below meth c H locs (n1 + 1) (n2 + 6) Q (F0 m 600 ls [])
      refine lv_aload_n hx hb d_La_law_600 rfl (lv_at hl 4 rfl) ?_
      refine y_callV1 (V := .int (iI 1)) S (c_Mo_thrown l D aC b M 1 p2) t_La_63 (rm_9 (by decide) (by decide)) hK hN hP [58] rfl 0 6 rfl rfl rfl hl.1 rfl (Nat.le_of_ble_eq_true rfl) d_La_law_601 ⟨by show n1 + 1 ≤ 601024; omega, by show n2 + 6 ≤ 7293034; omega⟩ ?_
      refine lv_iload hx hb d_La_law_604 (lv_at hl 0 rfl) ?_
      refine x_icmp_eq (tgt := 611) hx hb d_La_law_606 (by decide) (by omega) (by omega) (fun c_606 => ?_) (fun c_606 => (by exfalso; omega))
      refine lv_goto (tgt := 841) hx hb d_La_law_611 (by decide) ?_
      refine W.widen (k := n1 + 2) (n := n2 + 12) (by omega) (by omega) ?_
      exact kk d M pd px pn fd mt ee gd mu eu 1 p2 f f1 f2 f3 f4 f5 z o1 o2 _ _ _ (hd) (hM) (hR) hP hD hS (lv_sub hl [1, 2, 3, 4, 5, 6] rfl)
    · exfalso; omega
    · exfalso; omega
  · have e9 : ws1 = [(ou, eJ aC 1 o1), (od, eD aC 1 o2), (a 44, .inr (3, [.ref (a 45), .int (iI px), .int (iI pn)])), (a 45, eJ aC 6 pd), (a 46, .inr (4, [.ref (a 47), .long (lI mt), .int (iI ee)])), (a 47, eJ aC 112 fd), (a 48, .inr (4, [.ref (a 49), .long (lI mu), .int (iI eu)])), (a 49, eJ aC 112 gd), (a 0, .inr (5, [.ref (a 1), .ref (a 4), .ref (a 7), .ref (a 10), .ref (a 21), .ref (a 32), .ref (a 38), .ref (a 44), .ref (a 46), .ref (a 48)])), (a 1, .inr (0, [.ref (a 2), .ref (a 3)])), (a 2, eJ aC 1 d.om), (a 3, eI aC 1 d.oe), (a 4, .inr (0, [.ref (a 5), .ref (a 6)])), (a 5, eJ aC 1 d.nm), (a 6, eI aC 1 d.ne), (a 7, .inr (0, [.ref (a 8), .ref (a 9)])), (a 8, eJ aC 16 d.cm), (a 9, eI aC 16 d.ce), (a 10, .inr (1, [.ref (a 11), .ref (a 12), .ref (a 15), .ref (a 18), .int (iI d.rc)])), (a 11, eI aC 12 d.rl), (a 12, .inr (0, [.ref (a 13), .ref (a 14)])), (a 13, eJ aC 12 d.rlm), (a 14, eI aC 12 d.rle), (a 15, .inr (0, [.ref (a 16), .ref (a 17)])), (a 16, eJ aC 12 d.rhm), (a 17, eI aC 12 d.rhe), (a 18, .inr (0, [.ref (a 19), .ref (a 20)])), (a 19, eJ aC 12 d.rvm), (a 20, eI aC 12 d.rve), (a 21, .inr (1, [.ref (a 22), .ref (a 23), .ref (a 26), .ref (a 29), .int (iI d.cc)])), (a 22, eI aC 16 d.cl), (a 23, .inr (0, [.ref (a 24), .ref (a 25)])), (a 24, eJ aC 16 d.clm), (a 25, eI aC 16 d.cle), (a 26, .inr (0, [.ref (a 27), .ref (a 28)])), (a 27, eJ aC 16 d.chm), (a 28, eI aC 16 d.che), (a 29, .inr (0, [.ref (a 30), .ref (a 31)])), (a 30, eJ aC 16 d.cvm), (a 31, eI aC 16 d.cve), (a 32, .inr (2, [.ref (a 33), .ref (a 34), .ref (a 35), .int (iI d.ec)])), (a 33, eI aC 100 d.e1), (a 34, eI aC 100 d.e2), (a 35, .inr (0, [.ref (a 36), .ref (a 37)])), (a 36, eJ aC 100 d.em), (a 37, eI aC 100 d.ee), (a 38, .inr (2, [.ref (a 39), .ref (a 40), .ref (a 41), .int (iI d.pc)])), (a 39, eI aC 60 d.p1), (a 40, eI aC 60 d.p2), (a 41, .inr (0, [.ref (a 42), .ref (a 43)])), (a 42, eJ aC 60 d.pm), (a 43, eI aC 60 d.pe), (b 16, eI aC 440 f), (b 18, eI aC 1200 f1), (b 19, eI aC 1200 f2), (b 20, eI aC 1200 f3), (b 21, eI aC 1200 f4), (b 22, eI aC 1200 f5), (b 0, .inr (6, [.int (iI er), .int (iI M.rw), .int (iI M.cn), .int (iI M.en), .int (iI M.pr), .double (dM M.ko (-3)), .ref (b 1), .ref (b 2), .ref (b 3), .ref (b 4), .ref (b 5), .ref (b 6), .ref (b 7), .ref (b 8), .ref (b 9), .ref (b 10), .ref (b 11), .ref (b 12), .ref (b 13), .ref (b 14), .ref (b 15), .int (iI p2), .ref (b 16), .ref (b 17), .ref (b 18), .ref (b 19), .ref (b 20), .ref (b 21), .ref (b 22)])), (b 17, eI aC 440 z), (b 1, eD aC 192 (dA M.ka c3)), (b 2, eD aC 16 (dA M.kc c3)), (b 3, eD aC 256 (dA M.kq c3)), (b 4, eD aC 16 (dA M.kl c3)), (b 5, eD aC 16 (dA M.kh c3)), (b 6, eD aC 12 (dA M.krl c3)), (b 7, eD aC 12 (dA M.krh c3)), (b 8, eD aC 16 (dA M.kx M.xb)), (b 9, eD aC 12 (dA M.ky M.yb)), (b 10, eZ aC 192 M.ai), (b 11, eZ aC 256 M.qi), (b 12, eZ aC 16 M.li), (b 13, eZ aC 16 M.hi), (b 14, eZ aC 12 M.rli), (b 15, eZ aC 12 M.rhi)] := e9
    subst e9
    change W p l e room_1 s m #[Value.ref sb] below meth c H locs (n1 + 1) (n2 + 6) Q (F0 m 571 ls [.int (iI 2)])
    refine lv_istore (lv' := [(6, .int (iI 2)), (5, .int (iI i)), (4, .ref od), (3, .ref ou), (2, .ref (b 0)), (1, .ref (a 0)), (0, .ref sb)]) hx hb d_La_law_571 hl (by decide) rfl (fun ls hl => ?_)
    refine lv_aload_n hx hb d_La_law_573 rfl (lv_at hl 4 rfl) ?_
    refine lv_aload_n hx hb d_La_law_574 rfl (lv_at hl 6 rfl) ?_
    refine lv_iload hx hb d_La_law_575 (lv_at hl 1 rfl) ?_
    refine lv_iconst (v := iI 1) hx hb d_La_law_577 rfl ?_
    refine x_iadd hx hb d_La_law_578 ?_
    refine x_sld hx hb hXs hbl hbA hS (by omega) (by omega) d_La_law_579 ?_
    have hsc579 := sc_r xs (i + 1)
    refine lv_aload_n hx hb d_La_law_580 rfl (lv_at hl 6 rfl) ?_
    refine lv_iload hx hb d_La_law_581 (lv_at hl 1 rfl) ?_
    refine lv_iconst (v := iI 2) hx hb d_La_law_583 rfl ?_
    refine x_iadd hx hb d_La_law_584 ?_
    refine x_sld hx hb hXs hbl hbA hS (by omega) (by omega) d_La_law_585 ?_
    have hsc585 := sc_r xs (i + 2)
    refine x_i2d hx hb d_La_law_586 (by omega) ?_
    refine x_ldc2d hx hb 1 (-3) (by decide +kernel) hown (hts _ wk_La_55) d_La_law_587 ?_
    refine x_dmul1 hx hb d_La_law_590 (by unfold dOk; omega) (by unfold dOk; omega) (by unfold dOk; omega) ?_
    refine x_topd _ _ (sc xs (i + 2)) (-3) (congrArg (dM (sc xs (i + 2))) (show (0 : Int) + (-3) = -3 from rfl)) ?_
    refine lv_aload_n hx hb d_La_law_591 rfl (lv_at hl 6 rfl) ?_
    refine lv_iload hx hb d_La_law_592 (lv_at hl 1 rfl) ?_
    refine lv_iconst (v := iI 3) hx hb d_La_law_594 rfl ?_
    refine x_iadd hx hb d_La_law_595 ?_
    refine x_sld hx hb hXs hbl hbA hS (by omega) (by omega) d_La_law_596 ?_
    have hsc596 := sc_r xs (i + 3)
    refine x_callVG S (c_Mo_x l D aC b M hM er p2 (sc xs (i + 1)) (sc xs (i + 2)) (by omega) (by omega) (sc xs (i + 3)) (by omega)) t_La_85 ⟨rfl, rfl, by decide, by decide⟩ hK hN hP hD hS [58, 67] [] rfl (by decide +kernel) (fun v9 w9 hw => by rcases hw with ⟨rfl, ⟨h1, rfl⟩ | ⟨h1, h2, rfl⟩ | ⟨h1, h2, rfl⟩⟩ <;> exact ⟨rfl, Nat.le_of_ble_eq_true rfl⟩) 0 6 rfl rfl rfl hl.1 rfl (Nat.le_of_ble_eq_true rfl) d_La_law_597 ⟨by show n1 + 1 ≤ 601024; omega, by show n2 + 6 ≤ 7293034; omega⟩ (fun v w1 ws1 H locs e9 hw hP hD hS => ?_)
    rcases hw with ⟨rfl, ⟨h1, rfl⟩ | ⟨h1, h2, rfl⟩ | ⟨h1, h2, rfl⟩⟩
    · exfalso; omega
    · have e9 : ws1 = [(ou, eJ aC 1 o1), (od, eD aC 1 o2), (a 44, .inr (3, [.ref (a 45), .int (iI px), .int (iI pn)])), (a 45, eJ aC 6 pd), (a 46, .inr (4, [.ref (a 47), .long (lI mt), .int (iI ee)])), (a 47, eJ aC 112 fd), (a 48, .inr (4, [.ref (a 49), .long (lI mu), .int (iI eu)])), (a 49, eJ aC 112 gd), (a 0, .inr (5, [.ref (a 1), .ref (a 4), .ref (a 7), .ref (a 10), .ref (a 21), .ref (a 32), .ref (a 38), .ref (a 44), .ref (a 46), .ref (a 48)])), (a 1, .inr (0, [.ref (a 2), .ref (a 3)])), (a 2, eJ aC 1 d.om), (a 3, eI aC 1 d.oe), (a 4, .inr (0, [.ref (a 5), .ref (a 6)])), (a 5, eJ aC 1 d.nm), (a 6, eI aC 1 d.ne), (a 7, .inr (0, [.ref (a 8), .ref (a 9)])), (a 8, eJ aC 16 d.cm), (a 9, eI aC 16 d.ce), (a 10, .inr (1, [.ref (a 11), .ref (a 12), .ref (a 15), .ref (a 18), .int (iI d.rc)])), (a 11, eI aC 12 d.rl), (a 12, .inr (0, [.ref (a 13), .ref (a 14)])), (a 13, eJ aC 12 d.rlm), (a 14, eI aC 12 d.rle), (a 15, .inr (0, [.ref (a 16), .ref (a 17)])), (a 16, eJ aC 12 d.rhm), (a 17, eI aC 12 d.rhe), (a 18, .inr (0, [.ref (a 19), .ref (a 20)])), (a 19, eJ aC 12 d.rvm), (a 20, eI aC 12 d.rve), (a 21, .inr (1, [.ref (a 22), .ref (a 23), .ref (a 26), .ref (a 29), .int (iI d.cc)])), (a 22, eI aC 16 d.cl), (a 23, .inr (0, [.ref (a 24), .ref (a 25)])), (a 24, eJ aC 16 d.clm), (a 25, eI aC 16 d.cle), (a 26, .inr (0, [.ref (a 27), .ref (a 28)])), (a 27, eJ aC 16 d.chm), (a 28, eI aC 16 d.che), (a 29, .inr (0, [.ref (a 30), .ref (a 31)])), (a 30, eJ aC 16 d.cvm), (a 31, eI aC 16 d.cve), (a 32, .inr (2, [.ref (a 33), .ref (a 34), .ref (a 35), .int (iI d.ec)])), (a 33, eI aC 100 d.e1), (a 34, eI aC 100 d.e2), (a 35, .inr (0, [.ref (a 36), .ref (a 37)])), (a 36, eJ aC 100 d.em), (a 37, eI aC 100 d.ee), (a 38, .inr (2, [.ref (a 39), .ref (a 40), .ref (a 41), .int (iI d.pc)])), (a 39, eI aC 60 d.p1), (a 40, eI aC 60 d.p2), (a 41, .inr (0, [.ref (a 42), .ref (a 43)])), (a 42, eJ aC 60 d.pm), (a 43, eI aC 60 d.pe), (b 16, eI aC 440 f), (b 18, eI aC 1200 f1), (b 19, eI aC 1200 f2), (b 20, eI aC 1200 f3), (b 21, eI aC 1200 f4), (b 22, eI aC 1200 f5), (b 0, .inr (6, [.int (iI 2), .int (iI M.rw), .int (iI M.cn), .int (iI M.en), .int (iI M.pr), .double (dM M.ko (-3)), .ref (b 1), .ref (b 2), .ref (b 3), .ref (b 4), .ref (b 5), .ref (b 6), .ref (b 7), .ref (b 8), .ref (b 9), .ref (b 10), .ref (b 11), .ref (b 12), .ref (b 13), .ref (b 14), .ref (b 15), .int (iI p2), .ref (b 16), .ref (b 17), .ref (b 18), .ref (b 19), .ref (b 20), .ref (b 21), .ref (b 22)])), (b 17, eI aC 440 z), (b 1, eD aC 192 (dA M.ka c3)), (b 2, eD aC 16 (dA M.kc c3)), (b 3, eD aC 256 (dA M.kq c3)), (b 4, eD aC 16 (dA M.kl c3)), (b 5, eD aC 16 (dA M.kh c3)), (b 6, eD aC 12 (dA M.krl c3)), (b 7, eD aC 12 (dA M.krh c3)), (b 8, eD aC 16 (dA M.kx M.xb)), (b 9, eD aC 12 (dA M.ky M.yb)), (b 10, eZ aC 192 M.ai), (b 11, eZ aC 256 M.qi), (b 12, eZ aC 16 M.li), (b 13, eZ aC 16 M.hi), (b 14, eZ aC 12 M.rli), (b 15, eZ aC 12 M.rhi)] := e9
      subst e9
      change W p l e room_1 s m #[Value.ref sb] below meth c H locs (n1 + 1) (n2 + 6) Q (F0 m 600 ls [])
      refine lv_aload_n hx hb d_La_law_600 rfl (lv_at hl 4 rfl) ?_
      refine y_callV1 (V := .int (iI 2)) S (c_Mo_thrown l D aC b M 2 p2) t_La_63 (rm_9 (by decide) (by decide)) hK hN hP [58] rfl 0 6 rfl rfl rfl hl.1 rfl (Nat.le_of_ble_eq_true rfl) d_La_law_601 ⟨by show n1 + 1 ≤ 601024; omega, by show n2 + 6 ≤ 7293034; omega⟩ ?_
      refine lv_iload hx hb d_La_law_604 (lv_at hl 0 rfl) ?_
      refine x_icmp_eq (tgt := 611) hx hb d_La_law_606 (by decide) (by omega) (by omega) (fun c_606 => ?_) (fun c_606 => (by exfalso; omega))
      refine lv_goto (tgt := 841) hx hb d_La_law_611 (by decide) ?_
      refine W.widen (k := n1 + 2) (n := n2 + 12) (by omega) (by omega) ?_
      exact kk d M pd px pn fd mt ee gd mu eu 2 p2 f f1 f2 f3 f4 f5 z o1 o2 _ _ _ (hd) (hM) (hR) hP hD hS (lv_sub hl [1, 2, 3, 4, 5, 6] rfl)
    · exfalso; omega
set_option maxHeartbeats 8000000 in
set_option maxRecDepth 100000 in
theorem law_6 {p : Program} {l : Launch} {e : Env} {s : State} {m : MethodId} {below : List Frame} {meth : Method} {c : Code} {D : va_G} {aC : Nat → ClassId} {sa : Nat → Nat} {a b : Nat → Nat} {ou od sb L : Nat} {xs : Nat → Int32} {Q : State → Prop} (C0 : LC p l s m meth c D aC sa sb L xs) {i : Int} {n1 n2 : Nat} (hi : 0 ≤ i ∧ i + 5 ≤ (L : Int)) (hn1 : n1 + 2 ≤ 601024) (hn2 : n2 + 12 ≤ 7293034) (kk : LK p l e s m below meth c D aC a b ou od sb Q i 841 (n1 + 2) (n2 + 12)) : LK p l e s m below meth c D aC a b ou od sb Q i 614 n1 n2 := by
  intro d M pd px pn fd mt ee gd mu eu er p2 f f1 f2 f3 f4 f5 z o1 o2 H locs ls hd hM hR hP hD hS hl
  obtain ⟨S, hXs, hbl, hL9, hst, hK, hN, hX, hNC⟩ := C0
  obtain ⟨hx, hb, hml, hown, hts⟩ := id S
  have hbA : ¬ (fun q : Nat => s.heap.size ≤ q) sb := Nat.not_le.mpr hbl
  have hn := hR.n
  have hrw := hM.rw
  have hcn := hM.cn
  have hen := hM.en
  have hpr := hM.pr
  refine lv_aload_n hx hb d_La_law_614 rfl (lv_at hl 4 rfl) ?_
  refine lv_aload_n hx hb d_La_law_615 rfl (lv_at hl 5 rfl) ?_
  refine lv_iload hx hb d_La_law_616 (lv_at hl 0 rfl) ?_
  refine lv_iconst (v := iI 1) hx hb d_La_law_618 rfl ?_
  refine x_iadd hx hb d_La_law_619 ?_
  refine x_sld hx hb hXs hbl hbA hS (by omega) (by omega) d_La_law_620 ?_
  have hsc620 := sc_r xs (i + 1)
  refine lv_aload_n hx hb d_La_law_621 rfl (lv_at hl 5 rfl) ?_
  refine lv_iload hx hb d_La_law_622 (lv_at hl 0 rfl) ?_
  refine lv_iconst (v := iI 2) hx hb d_La_law_624 rfl ?_
  refine x_iadd hx hb d_La_law_625 ?_
  refine x_sld hx hb hXs hbl hbA hS (by omega) (by omega) d_La_law_626 ?_
  have hsc626 := sc_r xs (i + 2)
  refine x_i2d hx hb d_La_law_627 (by omega) ?_
  refine x_ldc2d hx hb 1 (-3) (by decide +kernel) hown (hts _ wk_La_55) d_La_law_628 ?_
  refine x_dmul1 hx hb d_La_law_631 (by unfold dOk; omega) (by unfold dOk; omega) (by unfold dOk; omega) ?_
  refine x_topd _ _ (sc xs (i + 2)) (-3) (congrArg (dM (sc xs (i + 2))) (show (0 : Int) + (-3) = -3 from rfl)) ?_
  refine lv_aload_n hx hb d_La_law_632 rfl (lv_at hl 5 rfl) ?_
  refine lv_iload hx hb d_La_law_633 (lv_at hl 0 rfl) ?_
  refine lv_iconst (v := iI 3) hx hb d_La_law_635 rfl ?_
  refine x_iadd hx hb d_La_law_636 ?_
  refine x_sld hx hb hXs hbl hbA hS (by omega) (by omega) d_La_law_637 ?_
  have hsc637 := sc_r xs (i + 3)
  refine x_callW S (c_La_y l D aC sa hst a d hd (sc xs (i + 1)) (by omega) (sc xs (i + 2)) (by omega) (sc xs (i + 3)) (by omega)) tl_86 ⟨rfl, rfl, by decide, by decide⟩ hK hN hX hNC hP hD hS [8, 18, 19, 26, 27, 28] [] rfl (by decide +kernel) (fun v9 w9 hw => by rcases hw with ⟨rfl, hok, rfl⟩ | ⟨rfl, hok, rfl⟩ | ⟨rfl, hok, rfl⟩ <;> exact ⟨rfl, Nat.le_of_ble_eq_true rfl⟩) rfl hl.1 rfl (Nat.le_of_ble_eq_true rfl) d_La_law_638 ⟨by show n1 + 1 ≤ 601024; omega, by show n2 + 6 ≤ 7293034; omega⟩ (fun v w1 ws1 H locs e9 hw hP hD hS => ?_)
  rcases hw with ⟨rfl, hok, rfl⟩ | ⟨rfl, hok, rfl⟩ | ⟨rfl, hok, rfl⟩
  · have e9 : ws1 = [(ou, eJ aC 1 o1), (od, eD aC 1 o2), (a 44, .inr (3, [.ref (a 45), .int (iI px), .int (iI pn)])), (a 45, eJ aC 6 pd), (a 46, .inr (4, [.ref (a 47), .long (lI mt), .int (iI ee)])), (a 47, eJ aC 112 fd), (a 48, .inr (4, [.ref (a 49), .long (lI mu), .int (iI eu)])), (a 49, eJ aC 112 gd), (a 0, .inr (5, [.ref (a 1), .ref (a 4), .ref (a 7), .ref (a 10), .ref (a 21), .ref (a 32), .ref (a 38), .ref (a 44), .ref (a 46), .ref (a 48)])), (a 1, .inr (0, [.ref (a 2), .ref (a 3)])), (a 2, eJ aC 1 d.om), (a 3, eI aC 1 d.oe), (a 4, .inr (0, [.ref (a 5), .ref (a 6)])), (a 5, eJ aC 1 d.nm), (a 6, eI aC 1 d.ne), (a 7, .inr (0, [.ref (a 8), .ref (a 9)])), (a 8, eJ aC 16 d.cm), (a 9, eI aC 16 d.ce), (a 10, .inr (1, [.ref (a 11), .ref (a 12), .ref (a 15), .ref (a 18), .int (iI d.rc)])), (a 11, eI aC 12 d.rl), (a 12, .inr (0, [.ref (a 13), .ref (a 14)])), (a 13, eJ aC 12 d.rlm), (a 14, eI aC 12 d.rle), (a 15, .inr (0, [.ref (a 16), .ref (a 17)])), (a 16, eJ aC 12 d.rhm), (a 17, eI aC 12 d.rhe), (a 18, .inr (0, [.ref (a 19), .ref (a 20)])), (a 19, eJ aC 12 (updI d.rvm (sc xs (i + 1)) ((sc xs (i + 2)) * 2 ^ nt (sc xs (i + 2))))), (a 20, eI aC 12 (updI d.rve (sc xs (i + 1)) (nx (sc xs (i + 2)) (-3) (sc xs (i + 3))))), (a 21, .inr (1, [.ref (a 22), .ref (a 23), .ref (a 26), .ref (a 29), .int (iI d.cc)])), (a 22, eI aC 16 d.cl), (a 23, .inr (0, [.ref (a 24), .ref (a 25)])), (a 24, eJ aC 16 d.clm), (a 25, eI aC 16 d.cle), (a 26, .inr (0, [.ref (a 27), .ref (a 28)])), (a 27, eJ aC 16 d.chm), (a 28, eI aC 16 d.che), (a 29, .inr (0, [.ref (a 30), .ref (a 31)])), (a 30, eJ aC 16 d.cvm), (a 31, eI aC 16 d.cve), (a 32, .inr (2, [.ref (a 33), .ref (a 34), .ref (a 35), .int (iI d.ec)])), (a 33, eI aC 100 d.e1), (a 34, eI aC 100 d.e2), (a 35, .inr (0, [.ref (a 36), .ref (a 37)])), (a 36, eJ aC 100 d.em), (a 37, eI aC 100 d.ee), (a 38, .inr (2, [.ref (a 39), .ref (a 40), .ref (a 41), .int (iI d.pc)])), (a 39, eI aC 60 d.p1), (a 40, eI aC 60 d.p2), (a 41, .inr (0, [.ref (a 42), .ref (a 43)])), (a 42, eJ aC 60 d.pm), (a 43, eI aC 60 d.pe), (b 16, eI aC 440 f), (b 18, eI aC 1200 f1), (b 19, eI aC 1200 f2), (b 20, eI aC 1200 f3), (b 21, eI aC 1200 f4), (b 22, eI aC 1200 f5), (b 0, .inr (6, [.int (iI er), .int (iI M.rw), .int (iI M.cn), .int (iI M.en), .int (iI M.pr), .double (dM M.ko (-3)), .ref (b 1), .ref (b 2), .ref (b 3), .ref (b 4), .ref (b 5), .ref (b 6), .ref (b 7), .ref (b 8), .ref (b 9), .ref (b 10), .ref (b 11), .ref (b 12), .ref (b 13), .ref (b 14), .ref (b 15), .int (iI p2), .ref (b 16), .ref (b 17), .ref (b 18), .ref (b 19), .ref (b 20), .ref (b 21), .ref (b 22)])), (b 17, eI aC 440 z), (b 1, eD aC 192 (dA M.ka c3)), (b 2, eD aC 16 (dA M.kc c3)), (b 3, eD aC 256 (dA M.kq c3)), (b 4, eD aC 16 (dA M.kl c3)), (b 5, eD aC 16 (dA M.kh c3)), (b 6, eD aC 12 (dA M.krl c3)), (b 7, eD aC 12 (dA M.krh c3)), (b 8, eD aC 16 (dA M.kx M.xb)), (b 9, eD aC 12 (dA M.ky M.yb)), (b 10, eZ aC 192 M.ai), (b 11, eZ aC 256 M.qi), (b 12, eZ aC 16 M.li), (b 13, eZ aC 16 M.hi), (b 14, eZ aC 12 M.rli), (b 15, eZ aC 12 M.rhi)] := e9
    subst e9
    change W p l e room_1 s m #[Value.ref sb] below meth c H locs (n1 + 1) (n2 + 6) Q (F0 m 641 ls [.int (iI 0)])
    refine lv_istore (lv' := [(6, .int (iI 0)), (5, .int (iI i)), (4, .ref od), (3, .ref ou), (2, .ref (b 0)), (1, .ref (a 0)), (0, .ref sb)]) hx hb d_La_law_641 hl (by decide) rfl (fun ls hl => ?_)
    refine lv_aload_n hx hb d_La_law_643 rfl (lv_at hl 4 rfl) ?_
    refine lv_aload_n hx hb d_La_law_644 rfl (lv_at hl 6 rfl) ?_
    refine lv_iload hx hb d_La_law_645 (lv_at hl 1 rfl) ?_
    refine lv_iconst (v := iI 1) hx hb d_La_law_647 rfl ?_
    refine x_iadd hx hb d_La_law_648 ?_
    refine x_sld hx hb hXs hbl hbA hS (by omega) (by omega) d_La_law_649 ?_
    have hsc649 := sc_r xs (i + 1)
    refine lv_aload_n hx hb d_La_law_650 rfl (lv_at hl 6 rfl) ?_
    refine lv_iload hx hb d_La_law_651 (lv_at hl 1 rfl) ?_
    refine lv_iconst (v := iI 2) hx hb d_La_law_653 rfl ?_
    refine x_iadd hx hb d_La_law_654 ?_
    refine x_sld hx hb hXs hbl hbA hS (by omega) (by omega) d_La_law_655 ?_
    have hsc655 := sc_r xs (i + 2)
    refine x_i2d hx hb d_La_law_656 (by omega) ?_
    refine x_ldc2d hx hb 1 (-3) (by decide +kernel) hown (hts _ wk_La_55) d_La_law_657 ?_
    refine x_dmul1 hx hb d_La_law_660 (by unfold dOk; omega) (by unfold dOk; omega) (by unfold dOk; omega) ?_
    refine x_topd _ _ (sc xs (i + 2)) (-3) (congrArg (dM (sc xs (i + 2))) (show (0 : Int) + (-3) = -3 from rfl)) ?_
    refine lv_aload_n hx hb d_La_law_661 rfl (lv_at hl 6 rfl) ?_
    refine lv_iload hx hb d_La_law_662 (lv_at hl 1 rfl) ?_
    refine lv_iconst (v := iI 3) hx hb d_La_law_664 rfl ?_
    refine x_iadd hx hb d_La_law_665 ?_
    refine x_sld hx hb hXs hbl hbA hS (by omega) (by omega) d_La_law_666 ?_
    have hsc666 := sc_r xs (i + 3)
    refine x_callVG S (c_Mo_y l D aC b M hM er p2 (sc xs (i + 1)) (sc xs (i + 2)) (by omega) (by omega) (sc xs (i + 3)) (by omega)) t_La_88 ⟨rfl, rfl, by decide, by decide⟩ hK hN hP hD hS [58, 68] [] rfl (by decide +kernel) (fun v9 w9 hw => by rcases hw with ⟨rfl, ⟨h1, rfl⟩ | ⟨h1, h2, rfl⟩ | ⟨h1, h2, rfl⟩⟩ <;> exact ⟨rfl, Nat.le_of_ble_eq_true rfl⟩) 0 6 rfl rfl rfl hl.1 rfl (Nat.le_of_ble_eq_true rfl) d_La_law_667 ⟨by show n1 + 1 ≤ 601024; omega, by show n2 + 6 ≤ 7293034; omega⟩ (fun v w1 ws1 H locs e9 hw hP hD hS => ?_)
    rcases hw with ⟨rfl, ⟨h1, rfl⟩ | ⟨h1, h2, rfl⟩ | ⟨h1, h2, rfl⟩⟩
    · exfalso; omega
    · exfalso; omega
    · have e9 : ws1 = [(ou, eJ aC 1 o1), (od, eD aC 1 o2), (a 44, .inr (3, [.ref (a 45), .int (iI px), .int (iI pn)])), (a 45, eJ aC 6 pd), (a 46, .inr (4, [.ref (a 47), .long (lI mt), .int (iI ee)])), (a 47, eJ aC 112 fd), (a 48, .inr (4, [.ref (a 49), .long (lI mu), .int (iI eu)])), (a 49, eJ aC 112 gd), (a 0, .inr (5, [.ref (a 1), .ref (a 4), .ref (a 7), .ref (a 10), .ref (a 21), .ref (a 32), .ref (a 38), .ref (a 44), .ref (a 46), .ref (a 48)])), (a 1, .inr (0, [.ref (a 2), .ref (a 3)])), (a 2, eJ aC 1 d.om), (a 3, eI aC 1 d.oe), (a 4, .inr (0, [.ref (a 5), .ref (a 6)])), (a 5, eJ aC 1 d.nm), (a 6, eI aC 1 d.ne), (a 7, .inr (0, [.ref (a 8), .ref (a 9)])), (a 8, eJ aC 16 d.cm), (a 9, eI aC 16 d.ce), (a 10, .inr (1, [.ref (a 11), .ref (a 12), .ref (a 15), .ref (a 18), .int (iI d.rc)])), (a 11, eI aC 12 d.rl), (a 12, .inr (0, [.ref (a 13), .ref (a 14)])), (a 13, eJ aC 12 d.rlm), (a 14, eI aC 12 d.rle), (a 15, .inr (0, [.ref (a 16), .ref (a 17)])), (a 16, eJ aC 12 d.rhm), (a 17, eI aC 12 d.rhe), (a 18, .inr (0, [.ref (a 19), .ref (a 20)])), (a 19, eJ aC 12 (updI d.rvm (sc xs (i + 1)) ((sc xs (i + 2)) * 2 ^ nt (sc xs (i + 2))))), (a 20, eI aC 12 (updI d.rve (sc xs (i + 1)) (nx (sc xs (i + 2)) (-3) (sc xs (i + 3))))), (a 21, .inr (1, [.ref (a 22), .ref (a 23), .ref (a 26), .ref (a 29), .int (iI d.cc)])), (a 22, eI aC 16 d.cl), (a 23, .inr (0, [.ref (a 24), .ref (a 25)])), (a 24, eJ aC 16 d.clm), (a 25, eI aC 16 d.cle), (a 26, .inr (0, [.ref (a 27), .ref (a 28)])), (a 27, eJ aC 16 d.chm), (a 28, eI aC 16 d.che), (a 29, .inr (0, [.ref (a 30), .ref (a 31)])), (a 30, eJ aC 16 d.cvm), (a 31, eI aC 16 d.cve), (a 32, .inr (2, [.ref (a 33), .ref (a 34), .ref (a 35), .int (iI d.ec)])), (a 33, eI aC 100 d.e1), (a 34, eI aC 100 d.e2), (a 35, .inr (0, [.ref (a 36), .ref (a 37)])), (a 36, eJ aC 100 d.em), (a 37, eI aC 100 d.ee), (a 38, .inr (2, [.ref (a 39), .ref (a 40), .ref (a 41), .int (iI d.pc)])), (a 39, eI aC 60 d.p1), (a 40, eI aC 60 d.p2), (a 41, .inr (0, [.ref (a 42), .ref (a 43)])), (a 42, eJ aC 60 d.pm), (a 43, eI aC 60 d.pe), (b 16, eI aC 440 f), (b 18, eI aC 1200 f1), (b 19, eI aC 1200 f2), (b 20, eI aC 1200 f3), (b 21, eI aC 1200 f4), (b 22, eI aC 1200 f5), (b 0, .inr (6, [.int (iI 0), .int (iI M.rw), .int (iI M.cn), .int (iI M.en), .int (iI M.pr), .double (dM M.ko (-3)), .ref (b 1), .ref (b 2), .ref (b 3), .ref (b 4), .ref (b 5), .ref (b 6), .ref (b 7), .ref (b 8), .ref (b 9), .ref (b 10), .ref (b 11), .ref (b 12), .ref (b 13), .ref (b 14), .ref (b 15), .int (iI p2), .ref (b 16), .ref (b 17), .ref (b 18), .ref (b 19), .ref (b 20), .ref (b 21), .ref (b 22)])), (b 17, eI aC 440 z), (b 1, eD aC 192 (dA M.ka c3)), (b 2, eD aC 16 (dA M.kc c3)), (b 3, eD aC 256 (dA M.kq c3)), (b 4, eD aC 16 (dA M.kl c3)), (b 5, eD aC 16 (dA M.kh c3)), (b 6, eD aC 12 (dA M.krl c3)), (b 7, eD aC 12 (dA M.krh c3)), (b 8, eD aC 16 (dA M.kx M.xb)), (b 9, eD aC 12 (dA (updI M.ky (sc xs (i + 1)) (sc xs (i + 2))) (updI M.yb (sc xs (i + 1)) (-3 + (sc xs (i + 3)))))), (b 10, eZ aC 192 M.ai), (b 11, eZ aC 256 M.qi), (b 12, eZ aC 16 M.li), (b 13, eZ aC 16 M.hi), (b 14, eZ aC 12 M.rli), (b 15, eZ aC 12 M.rhi)] := e9
      subst e9
      change W p l e room_1 s m #[Value.ref sb] below meth c H locs (n1 + 1) (n2 + 6) Q (F0 m 670 ls [])
      refine lv_aload_n hx hb d_La_law_670 rfl (lv_at hl 4 rfl) ?_
      refine y_callV1 (V := .int (iI 0)) S (c_Mo_thrown l D aC b (mSY M (sc xs (i + 1)) (sc xs (i + 2)) (sc xs (i + 3))) 0 p2) t_La_63 (rm_9 (by decide) (by decide)) hK hN hP [58] rfl 0 6 rfl rfl rfl hl.1 rfl (Nat.le_of_ble_eq_true rfl) d_La_law_671 ⟨by show n1 + 1 ≤ 601024; omega, by show n2 + 6 ≤ 7293034; omega⟩ ?_
      refine lv_iload hx hb d_La_law_674 (lv_at hl 0 rfl) ?_
      refine x_icmp_eq (tgt := 681) hx hb d_La_law_676 (by decide) (by omega) (by omega) (fun c_676 => ?_) (fun c_676 => (by exfalso; omega))
      refine lv_goto (tgt := 841) hx hb d_La_law_681 (by decide) ?_
      refine W.widen (k := n1 + 2) (n := n2 + 12) (by omega) (by omega) ?_
      exact kk (dSY d (sc xs (i + 1)) (sc xs (i + 2)) (sc xs (i + 3))) (mSY M (sc xs (i + 1)) (sc xs (i + 2)) (sc xs (i + 3))) pd px pn fd mt ee gd mu eu 0 p2 f f1 f2 f3 f4 f5 z o1 o2 _ _ _ (DI_SY hd hM hR (by omega) (by omega)) (MI_SY hM (by omega) (by omega)) (Rel_SY hd hM hR (by omega) (by omega)) hP hD hS (lv_sub hl [1, 2, 3, 4, 5, 6] rfl)
  · have e9 : ws1 = [(ou, eJ aC 1 o1), (od, eD aC 1 o2), (a 44, .inr (3, [.ref (a 45), .int (iI px), .int (iI pn)])), (a 45, eJ aC 6 pd), (a 46, .inr (4, [.ref (a 47), .long (lI mt), .int (iI ee)])), (a 47, eJ aC 112 fd), (a 48, .inr (4, [.ref (a 49), .long (lI mu), .int (iI eu)])), (a 49, eJ aC 112 gd), (a 0, .inr (5, [.ref (a 1), .ref (a 4), .ref (a 7), .ref (a 10), .ref (a 21), .ref (a 32), .ref (a 38), .ref (a 44), .ref (a 46), .ref (a 48)])), (a 1, .inr (0, [.ref (a 2), .ref (a 3)])), (a 2, eJ aC 1 d.om), (a 3, eI aC 1 d.oe), (a 4, .inr (0, [.ref (a 5), .ref (a 6)])), (a 5, eJ aC 1 d.nm), (a 6, eI aC 1 d.ne), (a 7, .inr (0, [.ref (a 8), .ref (a 9)])), (a 8, eJ aC 16 d.cm), (a 9, eI aC 16 d.ce), (a 10, .inr (1, [.ref (a 11), .ref (a 12), .ref (a 15), .ref (a 18), .int (iI d.rc)])), (a 11, eI aC 12 d.rl), (a 12, .inr (0, [.ref (a 13), .ref (a 14)])), (a 13, eJ aC 12 d.rlm), (a 14, eI aC 12 d.rle), (a 15, .inr (0, [.ref (a 16), .ref (a 17)])), (a 16, eJ aC 12 d.rhm), (a 17, eI aC 12 d.rhe), (a 18, .inr (0, [.ref (a 19), .ref (a 20)])), (a 19, eJ aC 12 d.rvm), (a 20, eI aC 12 d.rve), (a 21, .inr (1, [.ref (a 22), .ref (a 23), .ref (a 26), .ref (a 29), .int (iI d.cc)])), (a 22, eI aC 16 d.cl), (a 23, .inr (0, [.ref (a 24), .ref (a 25)])), (a 24, eJ aC 16 d.clm), (a 25, eI aC 16 d.cle), (a 26, .inr (0, [.ref (a 27), .ref (a 28)])), (a 27, eJ aC 16 d.chm), (a 28, eI aC 16 d.che), (a 29, .inr (0, [.ref (a 30), .ref (a 31)])), (a 30, eJ aC 16 d.cvm), (a 31, eI aC 16 d.cve), (a 32, .inr (2, [.ref (a 33), .ref (a 34), .ref (a 35), .int (iI d.ec)])), (a 33, eI aC 100 d.e1), (a 34, eI aC 100 d.e2), (a 35, .inr (0, [.ref (a 36), .ref (a 37)])), (a 36, eJ aC 100 d.em), (a 37, eI aC 100 d.ee), (a 38, .inr (2, [.ref (a 39), .ref (a 40), .ref (a 41), .int (iI d.pc)])), (a 39, eI aC 60 d.p1), (a 40, eI aC 60 d.p2), (a 41, .inr (0, [.ref (a 42), .ref (a 43)])), (a 42, eJ aC 60 d.pm), (a 43, eI aC 60 d.pe), (b 16, eI aC 440 f), (b 18, eI aC 1200 f1), (b 19, eI aC 1200 f2), (b 20, eI aC 1200 f3), (b 21, eI aC 1200 f4), (b 22, eI aC 1200 f5), (b 0, .inr (6, [.int (iI er), .int (iI M.rw), .int (iI M.cn), .int (iI M.en), .int (iI M.pr), .double (dM M.ko (-3)), .ref (b 1), .ref (b 2), .ref (b 3), .ref (b 4), .ref (b 5), .ref (b 6), .ref (b 7), .ref (b 8), .ref (b 9), .ref (b 10), .ref (b 11), .ref (b 12), .ref (b 13), .ref (b 14), .ref (b 15), .int (iI p2), .ref (b 16), .ref (b 17), .ref (b 18), .ref (b 19), .ref (b 20), .ref (b 21), .ref (b 22)])), (b 17, eI aC 440 z), (b 1, eD aC 192 (dA M.ka c3)), (b 2, eD aC 16 (dA M.kc c3)), (b 3, eD aC 256 (dA M.kq c3)), (b 4, eD aC 16 (dA M.kl c3)), (b 5, eD aC 16 (dA M.kh c3)), (b 6, eD aC 12 (dA M.krl c3)), (b 7, eD aC 12 (dA M.krh c3)), (b 8, eD aC 16 (dA M.kx M.xb)), (b 9, eD aC 12 (dA M.ky M.yb)), (b 10, eZ aC 192 M.ai), (b 11, eZ aC 256 M.qi), (b 12, eZ aC 16 M.li), (b 13, eZ aC 16 M.hi), (b 14, eZ aC 12 M.rli), (b 15, eZ aC 12 M.rhi)] := e9
    subst e9
    change W p l e room_1 s m #[Value.ref sb] below meth c H locs (n1 + 1) (n2 + 6) Q (F0 m 641 ls [.int (iI 1)])
    refine lv_istore (lv' := [(6, .int (iI 1)), (5, .int (iI i)), (4, .ref od), (3, .ref ou), (2, .ref (b 0)), (1, .ref (a 0)), (0, .ref sb)]) hx hb d_La_law_641 hl (by decide) rfl (fun ls hl => ?_)
    refine lv_aload_n hx hb d_La_law_643 rfl (lv_at hl 4 rfl) ?_
    refine lv_aload_n hx hb d_La_law_644 rfl (lv_at hl 6 rfl) ?_
    refine lv_iload hx hb d_La_law_645 (lv_at hl 1 rfl) ?_
    refine lv_iconst (v := iI 1) hx hb d_La_law_647 rfl ?_
    refine x_iadd hx hb d_La_law_648 ?_
    refine x_sld hx hb hXs hbl hbA hS (by omega) (by omega) d_La_law_649 ?_
    have hsc649 := sc_r xs (i + 1)
    refine lv_aload_n hx hb d_La_law_650 rfl (lv_at hl 6 rfl) ?_
    refine lv_iload hx hb d_La_law_651 (lv_at hl 1 rfl) ?_
    refine lv_iconst (v := iI 2) hx hb d_La_law_653 rfl ?_
    refine x_iadd hx hb d_La_law_654 ?_
    refine x_sld hx hb hXs hbl hbA hS (by omega) (by omega) d_La_law_655 ?_
    have hsc655 := sc_r xs (i + 2)
    refine x_i2d hx hb d_La_law_656 (by omega) ?_
    refine x_ldc2d hx hb 1 (-3) (by decide +kernel) hown (hts _ wk_La_55) d_La_law_657 ?_
    refine x_dmul1 hx hb d_La_law_660 (by unfold dOk; omega) (by unfold dOk; omega) (by unfold dOk; omega) ?_
    refine x_topd _ _ (sc xs (i + 2)) (-3) (congrArg (dM (sc xs (i + 2))) (show (0 : Int) + (-3) = -3 from rfl)) ?_
    refine lv_aload_n hx hb d_La_law_661 rfl (lv_at hl 6 rfl) ?_
    refine lv_iload hx hb d_La_law_662 (lv_at hl 1 rfl) ?_
    refine lv_iconst (v := iI 3) hx hb d_La_law_664 rfl ?_
    refine x_iadd hx hb d_La_law_665 ?_
    refine x_sld hx hb hXs hbl hbA hS (by omega) (by omega) d_La_law_666 ?_
    have hsc666 := sc_r xs (i + 3)
    refine x_callVG S (c_Mo_y l D aC b M hM er p2 (sc xs (i + 1)) (sc xs (i + 2)) (by omega) (by omega) (sc xs (i + 3)) (by omega)) t_La_88 ⟨rfl, rfl, by decide, by decide⟩ hK hN hP hD hS [58, 68] [] rfl (by decide +kernel) (fun v9 w9 hw => by rcases hw with ⟨rfl, ⟨h1, rfl⟩ | ⟨h1, h2, rfl⟩ | ⟨h1, h2, rfl⟩⟩ <;> exact ⟨rfl, Nat.le_of_ble_eq_true rfl⟩) 0 6 rfl rfl rfl hl.1 rfl (Nat.le_of_ble_eq_true rfl) d_La_law_667 ⟨by show n1 + 1 ≤ 601024; omega, by show n2 + 6 ≤ 7293034; omega⟩ (fun v w1 ws1 H locs e9 hw hP hD hS => ?_)
    rcases hw with ⟨rfl, ⟨h1, rfl⟩ | ⟨h1, h2, rfl⟩ | ⟨h1, h2, rfl⟩⟩
    · have e9 : ws1 = [(ou, eJ aC 1 o1), (od, eD aC 1 o2), (a 44, .inr (3, [.ref (a 45), .int (iI px), .int (iI pn)])), (a 45, eJ aC 6 pd), (a 46, .inr (4, [.ref (a 47), .long (lI mt), .int (iI ee)])), (a 47, eJ aC 112 fd), (a 48, .inr (4, [.ref (a 49), .long (lI mu), .int (iI eu)])), (a 49, eJ aC 112 gd), (a 0, .inr (5, [.ref (a 1), .ref (a 4), .ref (a 7), .ref (a 10), .ref (a 21), .ref (a 32), .ref (a 38), .ref (a 44), .ref (a 46), .ref (a 48)])), (a 1, .inr (0, [.ref (a 2), .ref (a 3)])), (a 2, eJ aC 1 d.om), (a 3, eI aC 1 d.oe), (a 4, .inr (0, [.ref (a 5), .ref (a 6)])), (a 5, eJ aC 1 d.nm), (a 6, eI aC 1 d.ne), (a 7, .inr (0, [.ref (a 8), .ref (a 9)])), (a 8, eJ aC 16 d.cm), (a 9, eI aC 16 d.ce), (a 10, .inr (1, [.ref (a 11), .ref (a 12), .ref (a 15), .ref (a 18), .int (iI d.rc)])), (a 11, eI aC 12 d.rl), (a 12, .inr (0, [.ref (a 13), .ref (a 14)])), (a 13, eJ aC 12 d.rlm), (a 14, eI aC 12 d.rle), (a 15, .inr (0, [.ref (a 16), .ref (a 17)])), (a 16, eJ aC 12 d.rhm), (a 17, eI aC 12 d.rhe), (a 18, .inr (0, [.ref (a 19), .ref (a 20)])), (a 19, eJ aC 12 d.rvm), (a 20, eI aC 12 d.rve), (a 21, .inr (1, [.ref (a 22), .ref (a 23), .ref (a 26), .ref (a 29), .int (iI d.cc)])), (a 22, eI aC 16 d.cl), (a 23, .inr (0, [.ref (a 24), .ref (a 25)])), (a 24, eJ aC 16 d.clm), (a 25, eI aC 16 d.cle), (a 26, .inr (0, [.ref (a 27), .ref (a 28)])), (a 27, eJ aC 16 d.chm), (a 28, eI aC 16 d.che), (a 29, .inr (0, [.ref (a 30), .ref (a 31)])), (a 30, eJ aC 16 d.cvm), (a 31, eI aC 16 d.cve), (a 32, .inr (2, [.ref (a 33), .ref (a 34), .ref (a 35), .int (iI d.ec)])), (a 33, eI aC 100 d.e1), (a 34, eI aC 100 d.e2), (a 35, .inr (0, [.ref (a 36), .ref (a 37)])), (a 36, eJ aC 100 d.em), (a 37, eI aC 100 d.ee), (a 38, .inr (2, [.ref (a 39), .ref (a 40), .ref (a 41), .int (iI d.pc)])), (a 39, eI aC 60 d.p1), (a 40, eI aC 60 d.p2), (a 41, .inr (0, [.ref (a 42), .ref (a 43)])), (a 42, eJ aC 60 d.pm), (a 43, eI aC 60 d.pe), (b 16, eI aC 440 f), (b 18, eI aC 1200 f1), (b 19, eI aC 1200 f2), (b 20, eI aC 1200 f3), (b 21, eI aC 1200 f4), (b 22, eI aC 1200 f5), (b 0, .inr (6, [.int (iI 1), .int (iI M.rw), .int (iI M.cn), .int (iI M.en), .int (iI M.pr), .double (dM M.ko (-3)), .ref (b 1), .ref (b 2), .ref (b 3), .ref (b 4), .ref (b 5), .ref (b 6), .ref (b 7), .ref (b 8), .ref (b 9), .ref (b 10), .ref (b 11), .ref (b 12), .ref (b 13), .ref (b 14), .ref (b 15), .int (iI p2), .ref (b 16), .ref (b 17), .ref (b 18), .ref (b 19), .ref (b 20), .ref (b 21), .ref (b 22)])), (b 17, eI aC 440 z), (b 1, eD aC 192 (dA M.ka c3)), (b 2, eD aC 16 (dA M.kc c3)), (b 3, eD aC 256 (dA M.kq c3)), (b 4, eD aC 16 (dA M.kl c3)), (b 5, eD aC 16 (dA M.kh c3)), (b 6, eD aC 12 (dA M.krl c3)), (b 7, eD aC 12 (dA M.krh c3)), (b 8, eD aC 16 (dA M.kx M.xb)), (b 9, eD aC 12 (dA M.ky M.yb)), (b 10, eZ aC 192 M.ai), (b 11, eZ aC 256 M.qi), (b 12, eZ aC 16 M.li), (b 13, eZ aC 16 M.hi), (b 14, eZ aC 12 M.rli), (b 15, eZ aC 12 M.rhi)] := e9
      subst e9
      change W p l e room_1 s m #[Value.ref sb] below meth c H locs (n1 + 1) (n2 + 6) Q (F0 m 670 ls [])
      refine lv_aload_n hx hb d_La_law_670 rfl (lv_at hl 4 rfl) ?_
      refine y_callV1 (V := .int (iI 1)) S (c_Mo_thrown l D aC b M 1 p2) t_La_63 (rm_9 (by decide) (by decide)) hK hN hP [58] rfl 0 6 rfl rfl rfl hl.1 rfl (Nat.le_of_ble_eq_true rfl) d_La_law_671 ⟨by show n1 + 1 ≤ 601024; omega, by show n2 + 6 ≤ 7293034; omega⟩ ?_
      refine lv_iload hx hb d_La_law_674 (lv_at hl 0 rfl) ?_
      refine x_icmp_eq (tgt := 681) hx hb d_La_law_676 (by decide) (by omega) (by omega) (fun c_676 => ?_) (fun c_676 => (by exfalso; omega))
      refine lv_goto (tgt := 841) hx hb d_La_law_681 (by decide) ?_
      refine W.widen (k := n1 + 2) (n := n2 + 12) (by omega) (by omega) ?_
      exact kk d M pd px pn fd mt ee gd mu eu 1 p2 f f1 f2 f3 f4 f5 z o1 o2 _ _ _ (hd) (hM) (hR) hP hD hS (lv_sub hl [1, 2, 3, 4, 5, 6] rfl)
    · exfalso; omega
    · exfalso; omega
  · have e9 : ws1 = [(ou, eJ aC 1 o1), (od, eD aC 1 o2), (a 44, .inr (3, [.ref (a 45), .int (iI px), .int (iI pn)])), (a 45, eJ aC 6 pd), (a 46, .inr (4, [.ref (a 47), .long (lI mt), .int (iI ee)])), (a 47, eJ aC 112 fd), (a 48, .inr (4, [.ref (a 49), .long (lI mu), .int (iI eu)])), (a 49, eJ aC 112 gd), (a 0, .inr (5, [.ref (a 1), .ref (a 4), .ref (a 7), .ref (a 10), .ref (a 21), .ref (a 32), .ref (a 38), .ref (a 44), .ref (a 46), .ref (a 48)])), (a 1, .inr (0, [.ref (a 2), .ref (a 3)])), (a 2, eJ aC 1 d.om), (a 3, eI aC 1 d.oe), (a 4, .inr (0, [.ref (a 5), .ref (a 6)])), (a 5, eJ aC 1 d.nm), (a 6, eI aC 1 d.ne), (a 7, .inr (0, [.ref (a 8), .ref (a 9)])), (a 8, eJ aC 16 d.cm), (a 9, eI aC 16 d.ce), (a 10, .inr (1, [.ref (a 11), .ref (a 12), .ref (a 15), .ref (a 18), .int (iI d.rc)])), (a 11, eI aC 12 d.rl), (a 12, .inr (0, [.ref (a 13), .ref (a 14)])), (a 13, eJ aC 12 d.rlm), (a 14, eI aC 12 d.rle), (a 15, .inr (0, [.ref (a 16), .ref (a 17)])), (a 16, eJ aC 12 d.rhm), (a 17, eI aC 12 d.rhe), (a 18, .inr (0, [.ref (a 19), .ref (a 20)])), (a 19, eJ aC 12 d.rvm), (a 20, eI aC 12 d.rve), (a 21, .inr (1, [.ref (a 22), .ref (a 23), .ref (a 26), .ref (a 29), .int (iI d.cc)])), (a 22, eI aC 16 d.cl), (a 23, .inr (0, [.ref (a 24), .ref (a 25)])), (a 24, eJ aC 16 d.clm), (a 25, eI aC 16 d.cle), (a 26, .inr (0, [.ref (a 27), .ref (a 28)])), (a 27, eJ aC 16 d.chm), (a 28, eI aC 16 d.che), (a 29, .inr (0, [.ref (a 30), .ref (a 31)])), (a 30, eJ aC 16 d.cvm), (a 31, eI aC 16 d.cve), (a 32, .inr (2, [.ref (a 33), .ref (a 34), .ref (a 35), .int (iI d.ec)])), (a 33, eI aC 100 d.e1), (a 34, eI aC 100 d.e2), (a 35, .inr (0, [.ref (a 36), .ref (a 37)])), (a 36, eJ aC 100 d.em), (a 37, eI aC 100 d.ee), (a 38, .inr (2, [.ref (a 39), .ref (a 40), .ref (a 41), .int (iI d.pc)])), (a 39, eI aC 60 d.p1), (a 40, eI aC 60 d.p2), (a 41, .inr (0, [.ref (a 42), .ref (a 43)])), (a 42, eJ aC 60 d.pm), (a 43, eI aC 60 d.pe), (b 16, eI aC 440 f), (b 18, eI aC 1200 f1), (b 19, eI aC 1200 f2), (b 20, eI aC 1200 f3), (b 21, eI aC 1200 f4), (b 22, eI aC 1200 f5), (b 0, .inr (6, [.int (iI er), .int (iI M.rw), .int (iI M.cn), .int (iI M.en), .int (iI M.pr), .double (dM M.ko (-3)), .ref (b 1), .ref (b 2), .ref (b 3), .ref (b 4), .ref (b 5), .ref (b 6), .ref (b 7), .ref (b 8), .ref (b 9), .ref (b 10), .ref (b 11), .ref (b 12), .ref (b 13), .ref (b 14), .ref (b 15), .int (iI p2), .ref (b 16), .ref (b 17), .ref (b 18), .ref (b 19), .ref (b 20), .ref (b 21), .ref (b 22)])), (b 17, eI aC 440 z), (b 1, eD aC 192 (dA M.ka c3)), (b 2, eD aC 16 (dA M.kc c3)), (b 3, eD aC 256 (dA M.kq c3)), (b 4, eD aC 16 (dA M.kl c3)), (b 5, eD aC 16 (dA M.kh c3)), (b 6, eD aC 12 (dA M.krl c3)), (b 7, eD aC 12 (dA M.krh c3)), (b 8, eD aC 16 (dA M.kx M.xb)), (b 9, eD aC 12 (dA M.ky M.yb)), (b 10, eZ aC 192 M.ai), (b 11, eZ aC 256 M.qi), (b 12, eZ aC 16 M.li), (b 13, eZ aC 16 M.hi), (b 14, eZ aC 12 M.rli), (b 15, eZ aC 12 M.rhi)] := e9
    subst e9
    change W p l e room_1 s m #[Value.ref sb] below meth c H locs (n1 + 1) (n2 + 6) Q (F0 m 641 ls [.int (iI 2)])
    refine lv_istore (lv' := [(6, .int (iI 2)), (5, .int (iI i)), (4, .ref od), (3, .ref ou), (2, .ref (b 0)), (1, .ref (a 0)), (0, .ref sb)]) hx hb d_La_law_641 hl (by decide) rfl (fun ls hl => ?_)
    refine lv_aload_n hx hb d_La_law_643 rfl (lv_at hl 4 rfl) ?_
    refine lv_aload_n hx hb d_La_law_644 rfl (lv_at hl 6 rfl) ?_
    refine lv_iload hx hb d_La_law_645 (lv_at hl 1 rfl) ?_
    refine lv_iconst (v := iI 1) hx hb d_La_law_647 rfl ?_
    refine x_iadd hx hb d_La_law_648 ?_
    refine x_sld hx hb hXs hbl hbA hS (by omega) (by omega) d_La_law_649 ?_
    have hsc649 := sc_r xs (i + 1)
    refine lv_aload_n hx hb d_La_law_650 rfl (lv_at hl 6 rfl) ?_
    refine lv_iload hx hb d_La_law_651 (lv_at hl 1 rfl) ?_
    refine lv_iconst (v := iI 2) hx hb d_La_law_653 rfl ?_
    refine x_iadd hx hb d_La_law_654 ?_
    refine x_sld hx hb hXs hbl hbA hS (by omega) (by omega) d_La_law_655 ?_
    have hsc655 := sc_r xs (i + 2)
    refine x_i2d hx hb d_La_law_656 (by omega) ?_
    refine x_ldc2d hx hb 1 (-3) (by decide +kernel) hown (hts _ wk_La_55) d_La_law_657 ?_
    refine x_dmul1 hx hb d_La_law_660 (by unfold dOk; omega) (by unfold dOk; omega) (by unfold dOk; omega) ?_
    refine x_topd _ _ (sc xs (i + 2)) (-3) (congrArg (dM (sc xs (i + 2))) (show (0 : Int) + (-3) = -3 from rfl)) ?_
    refine lv_aload_n hx hb d_La_law_661 rfl (lv_at hl 6 rfl) ?_
    refine lv_iload hx hb d_La_law_662 (lv_at hl 1 rfl) ?_
    refine lv_iconst (v := iI 3) hx hb d_La_law_664 rfl ?_
    refine x_iadd hx hb d_La_law_665 ?_
    refine x_sld hx hb hXs hbl hbA hS (by omega) (by omega) d_La_law_666 ?_
    have hsc666 := sc_r xs (i + 3)
    refine x_callVG S (c_Mo_y l D aC b M hM er p2 (sc xs (i + 1)) (sc xs (i + 2)) (by omega) (by omega) (sc xs (i + 3)) (by omega)) t_La_88 ⟨rfl, rfl, by decide, by decide⟩ hK hN hP hD hS [58, 68] [] rfl (by decide +kernel) (fun v9 w9 hw => by rcases hw with ⟨rfl, ⟨h1, rfl⟩ | ⟨h1, h2, rfl⟩ | ⟨h1, h2, rfl⟩⟩ <;> exact ⟨rfl, Nat.le_of_ble_eq_true rfl⟩) 0 6 rfl rfl rfl hl.1 rfl (Nat.le_of_ble_eq_true rfl) d_La_law_667 ⟨by show n1 + 1 ≤ 601024; omega, by show n2 + 6 ≤ 7293034; omega⟩ (fun v w1 ws1 H locs e9 hw hP hD hS => ?_)
    rcases hw with ⟨rfl, ⟨h1, rfl⟩ | ⟨h1, h2, rfl⟩ | ⟨h1, h2, rfl⟩⟩
    · exfalso; omega
    · have e9 : ws1 = [(ou, eJ aC 1 o1), (od, eD aC 1 o2), (a 44, .inr (3, [.ref (a 45), .int (iI px), .int (iI pn)])), (a 45, eJ aC 6 pd), (a 46, .inr (4, [.ref (a 47), .long (lI mt), .int (iI ee)])), (a 47, eJ aC 112 fd), (a 48, .inr (4, [.ref (a 49), .long (lI mu), .int (iI eu)])), (a 49, eJ aC 112 gd), (a 0, .inr (5, [.ref (a 1), .ref (a 4), .ref (a 7), .ref (a 10), .ref (a 21), .ref (a 32), .ref (a 38), .ref (a 44), .ref (a 46), .ref (a 48)])), (a 1, .inr (0, [.ref (a 2), .ref (a 3)])), (a 2, eJ aC 1 d.om), (a 3, eI aC 1 d.oe), (a 4, .inr (0, [.ref (a 5), .ref (a 6)])), (a 5, eJ aC 1 d.nm), (a 6, eI aC 1 d.ne), (a 7, .inr (0, [.ref (a 8), .ref (a 9)])), (a 8, eJ aC 16 d.cm), (a 9, eI aC 16 d.ce), (a 10, .inr (1, [.ref (a 11), .ref (a 12), .ref (a 15), .ref (a 18), .int (iI d.rc)])), (a 11, eI aC 12 d.rl), (a 12, .inr (0, [.ref (a 13), .ref (a 14)])), (a 13, eJ aC 12 d.rlm), (a 14, eI aC 12 d.rle), (a 15, .inr (0, [.ref (a 16), .ref (a 17)])), (a 16, eJ aC 12 d.rhm), (a 17, eI aC 12 d.rhe), (a 18, .inr (0, [.ref (a 19), .ref (a 20)])), (a 19, eJ aC 12 d.rvm), (a 20, eI aC 12 d.rve), (a 21, .inr (1, [.ref (a 22), .ref (a 23), .ref (a 26), .ref (a 29), .int (iI d.cc)])), (a 22, eI aC 16 d.cl), (a 23, .inr (0, [.ref (a 24), .ref (a 25)])), (a 24, eJ aC 16 d.clm), (a 25, eI aC 16 d.cle), (a 26, .inr (0, [.ref (a 27), .ref (a 28)])), (a 27, eJ aC 16 d.chm), (a 28, eI aC 16 d.che), (a 29, .inr (0, [.ref (a 30), .ref (a 31)])), (a 30, eJ aC 16 d.cvm), (a 31, eI aC 16 d.cve), (a 32, .inr (2, [.ref (a 33), .ref (a 34), .ref (a 35), .int (iI d.ec)])), (a 33, eI aC 100 d.e1), (a 34, eI aC 100 d.e2), (a 35, .inr (0, [.ref (a 36), .ref (a 37)])), (a 36, eJ aC 100 d.em), (a 37, eI aC 100 d.ee), (a 38, .inr (2, [.ref (a 39), .ref (a 40), .ref (a 41), .int (iI d.pc)])), (a 39, eI aC 60 d.p1), (a 40, eI aC 60 d.p2), (a 41, .inr (0, [.ref (a 42), .ref (a 43)])), (a 42, eJ aC 60 d.pm), (a 43, eI aC 60 d.pe), (b 16, eI aC 440 f), (b 18, eI aC 1200 f1), (b 19, eI aC 1200 f2), (b 20, eI aC 1200 f3), (b 21, eI aC 1200 f4), (b 22, eI aC 1200 f5), (b 0, .inr (6, [.int (iI 2), .int (iI M.rw), .int (iI M.cn), .int (iI M.en), .int (iI M.pr), .double (dM M.ko (-3)), .ref (b 1), .ref (b 2), .ref (b 3), .ref (b 4), .ref (b 5), .ref (b 6), .ref (b 7), .ref (b 8), .ref (b 9), .ref (b 10), .ref (b 11), .ref (b 12), .ref (b 13), .ref (b 14), .ref (b 15), .int (iI p2), .ref (b 16), .ref (b 17), .ref (b 18), .ref (b 19), .ref (b 20), .ref (b 21), .ref (b 22)])), (b 17, eI aC 440 z), (b 1, eD aC 192 (dA M.ka c3)), (b 2, eD aC 16 (dA M.kc c3)), (b 3, eD aC 256 (dA M.kq c3)), (b 4, eD aC 16 (dA M.kl c3)), (b 5, eD aC 16 (dA M.kh c3)), (b 6, eD aC 12 (dA M.krl c3)), (b 7, eD aC 12 (dA M.krh c3)), (b 8, eD aC 16 (dA M.kx M.xb)), (b 9, eD aC 12 (dA M.ky M.yb)), (b 10, eZ aC 192 M.ai), (b 11, eZ aC 256 M.qi), (b 12, eZ aC 16 M.li), (b 13, eZ aC 16 M.hi), (b 14, eZ aC 12 M.rli), (b 15, eZ aC 12 M.rhi)] := e9
      subst e9
      change W p l e room_1 s m #[Value.ref sb] below meth c H locs (n1 + 1) (n2 + 6) Q (F0 m 670 ls [])
      refine lv_aload_n hx hb d_La_law_670 rfl (lv_at hl 4 rfl) ?_
      refine y_callV1 (V := .int (iI 2)) S (c_Mo_thrown l D aC b M 2 p2) t_La_63 (rm_9 (by decide) (by decide)) hK hN hP [58] rfl 0 6 rfl rfl rfl hl.1 rfl (Nat.le_of_ble_eq_true rfl) d_La_law_671 ⟨by show n1 + 1 ≤ 601024; omega, by show n2 + 6 ≤ 7293034; omega⟩ ?_
      refine lv_iload hx hb d_La_law_674 (lv_at hl 0 rfl) ?_
      refine x_icmp_eq (tgt := 681) hx hb d_La_law_676 (by decide) (by omega) (by omega) (fun c_676 => ?_) (fun c_676 => (by exfalso; omega))
      refine lv_goto (tgt := 841) hx hb d_La_law_681 (by decide) ?_
      refine W.widen (k := n1 + 2) (n := n2 + 12) (by omega) (by omega) ?_
      exact kk d M pd px pn fd mt ee gd mu eu 2 p2 f f1 f2 f3 f4 f5 z o1 o2 _ _ _ (hd) (hM) (hR) hP hD hS (lv_sub hl [1, 2, 3, 4, 5, 6] rfl)
    · exfalso; omega
set_option maxHeartbeats 8000000 in
set_option maxRecDepth 100000 in
theorem law_7 {p : Program} {l : Launch} {e : Env} {s : State} {m : MethodId} {below : List Frame} {meth : Method} {c : Code} {D : va_G} {aC : Nat → ClassId} {sa : Nat → Nat} {a b : Nat → Nat} {ou od sb L : Nat} {xs : Nat → Int32} {Q : State → Prop} (C0 : LC p l s m meth c D aC sa sb L xs) {i : Int} {n1 n2 : Nat} (hi : 0 ≤ i ∧ i + 5 ≤ (L : Int)) (hn1 : n1 + 2 ≤ 601024) (hn2 : n2 + 12 ≤ 7293034) (kk : LK p l e s m below meth c D aC a b ou od sb Q i 841 (n1 + 2) (n2 + 12)) : LK p l e s m below meth c D aC a b ou od sb Q i 684 n1 n2 := by
  intro d M pd px pn fd mt ee gd mu eu er p2 f f1 f2 f3 f4 f5 z o1 o2 H locs ls hd hM hR hP hD hS hl
  obtain ⟨S, hXs, hbl, hL9, hst, hK, hN, hX, hNC⟩ := C0
  obtain ⟨hx, hb, hml, hown, hts⟩ := id S
  have hbA : ¬ (fun q : Nat => s.heap.size ≤ q) sb := Nat.not_le.mpr hbl
  have hn := hR.n
  have hrw := hM.rw
  have hcn := hM.cn
  have hen := hM.en
  have hpr := hM.pr
  refine lv_aload_n hx hb d_La_law_684 rfl (lv_at hl 4 rfl) ?_
  refine lv_aload_n hx hb d_La_law_685 rfl (lv_at hl 5 rfl) ?_
  refine lv_iload hx hb d_La_law_686 (lv_at hl 0 rfl) ?_
  refine lv_iconst (v := iI 1) hx hb d_La_law_688 rfl ?_
  refine x_iadd hx hb d_La_law_689 ?_
  refine x_sld hx hb hXs hbl hbA hS (by omega) (by omega) d_La_law_690 ?_
  have hsc690 := sc_r xs (i + 1)
  refine lv_aload_n hx hb d_La_law_691 rfl (lv_at hl 5 rfl) ?_
  refine lv_iload hx hb d_La_law_692 (lv_at hl 0 rfl) ?_
  refine lv_iconst (v := iI 2) hx hb d_La_law_694 rfl ?_
  refine x_iadd hx hb d_La_law_695 ?_
  refine x_sld hx hb hXs hbl hbA hS (by omega) (by omega) d_La_law_696 ?_
  have hsc696 := sc_r xs (i + 2)
  refine lv_aload hx hb d_La_law_697 (lv_at hl 1 rfl) ?_
  refine x_callW S (c_La_certify l D aC sa hst a d hd pd px pn fd mt ee gd mu eu (sc xs (i + 1)) (sc xs (i + 2)) (by omega) (by omega) od o2) tl_89 ⟨rfl, rfl, by decide, by decide⟩ hK hN hX hNC hP hD hS [1, 2, 3, 4, 5, 6, 7] [8, 9, 10, 11, 12, 13, 14, 15, 16, 17, 18, 19, 20, 21, 22, 23, 24, 25, 26, 27, 28, 29, 30, 31, 32, 33, 34, 35, 36, 37, 38, 39, 40, 41, 42, 43, 44, 45, 46, 47, 48, 49, 50, 51] rfl (by decide +kernel) (fun v9 w9 hw => by rcases hw with ⟨rfl, hok, hto, f', g', pd', px', pn', mt', ee', rfl⟩ | ⟨rfl, hok, rfl⟩ | ⟨rfl, hok, rfl⟩ | ⟨rfl, hok, hto, f', g', pd', px', pn', mt', ee', rfl⟩ <;> exact ⟨rfl, Nat.le_of_ble_eq_true rfl⟩) rfl hl.1 rfl (Nat.le_of_ble_eq_true rfl) d_La_law_699 ⟨by show n1 + 2 ≤ 601024; omega, by show n2 + 12 ≤ 7293034; omega⟩ (fun v w1 ws1 H locs e9 hw hP hD hS => ?_)
  rcases hw with ⟨rfl, hok, hto, f', g', pd', px', pn', mt', ee', rfl⟩ | ⟨rfl, hok, rfl⟩ | ⟨rfl, hok, rfl⟩ | ⟨rfl, hok, hto, f', g', pd', px', pn', mt', ee', rfl⟩
  · have e9 : ws1 = [(ou, eJ aC 1 o1), (od, eD aC 1 (updD o2 0 (cerD (figV d (sc xs (i + 1)) (sc xs (i + 2)))))), (a 44, .inr (3, [.ref (a 45), .int (iI px'), .int (iI pn')])), (a 45, eJ aC 6 pd'), (a 46, .inr (4, [.ref (a 47), .long (lI mt'), .int (iI ee')])), (a 47, eJ aC 112 f'), (a 48, .inr (4, [.ref (a 49), .long (lI mu), .int (iI eu)])), (a 49, eJ aC 112 g'), (a 0, .inr (5, [.ref (a 1), .ref (a 4), .ref (a 7), .ref (a 10), .ref (a 21), .ref (a 32), .ref (a 38), .ref (a 44), .ref (a 46), .ref (a 48)])), (a 1, .inr (0, [.ref (a 2), .ref (a 3)])), (a 2, eJ aC 1 d.om), (a 3, eI aC 1 d.oe), (a 4, .inr (0, [.ref (a 5), .ref (a 6)])), (a 5, eJ aC 1 d.nm), (a 6, eI aC 1 d.ne), (a 7, .inr (0, [.ref (a 8), .ref (a 9)])), (a 8, eJ aC 16 d.cm), (a 9, eI aC 16 d.ce), (a 10, .inr (1, [.ref (a 11), .ref (a 12), .ref (a 15), .ref (a 18), .int (iI d.rc)])), (a 11, eI aC 12 d.rl), (a 12, .inr (0, [.ref (a 13), .ref (a 14)])), (a 13, eJ aC 12 d.rlm), (a 14, eI aC 12 d.rle), (a 15, .inr (0, [.ref (a 16), .ref (a 17)])), (a 16, eJ aC 12 d.rhm), (a 17, eI aC 12 d.rhe), (a 18, .inr (0, [.ref (a 19), .ref (a 20)])), (a 19, eJ aC 12 d.rvm), (a 20, eI aC 12 d.rve), (a 21, .inr (1, [.ref (a 22), .ref (a 23), .ref (a 26), .ref (a 29), .int (iI d.cc)])), (a 22, eI aC 16 d.cl), (a 23, .inr (0, [.ref (a 24), .ref (a 25)])), (a 24, eJ aC 16 d.clm), (a 25, eI aC 16 d.cle), (a 26, .inr (0, [.ref (a 27), .ref (a 28)])), (a 27, eJ aC 16 d.chm), (a 28, eI aC 16 d.che), (a 29, .inr (0, [.ref (a 30), .ref (a 31)])), (a 30, eJ aC 16 d.cvm), (a 31, eI aC 16 d.cve), (a 32, .inr (2, [.ref (a 33), .ref (a 34), .ref (a 35), .int (iI d.ec)])), (a 33, eI aC 100 d.e1), (a 34, eI aC 100 d.e2), (a 35, .inr (0, [.ref (a 36), .ref (a 37)])), (a 36, eJ aC 100 d.em), (a 37, eI aC 100 d.ee), (a 38, .inr (2, [.ref (a 39), .ref (a 40), .ref (a 41), .int (iI d.pc)])), (a 39, eI aC 60 d.p1), (a 40, eI aC 60 d.p2), (a 41, .inr (0, [.ref (a 42), .ref (a 43)])), (a 42, eJ aC 60 d.pm), (a 43, eI aC 60 d.pe), (b 16, eI aC 440 f), (b 18, eI aC 1200 f1), (b 19, eI aC 1200 f2), (b 20, eI aC 1200 f3), (b 21, eI aC 1200 f4), (b 22, eI aC 1200 f5), (b 0, .inr (6, [.int (iI er), .int (iI M.rw), .int (iI M.cn), .int (iI M.en), .int (iI M.pr), .double (dM M.ko (-3)), .ref (b 1), .ref (b 2), .ref (b 3), .ref (b 4), .ref (b 5), .ref (b 6), .ref (b 7), .ref (b 8), .ref (b 9), .ref (b 10), .ref (b 11), .ref (b 12), .ref (b 13), .ref (b 14), .ref (b 15), .int (iI p2), .ref (b 16), .ref (b 17), .ref (b 18), .ref (b 19), .ref (b 20), .ref (b 21), .ref (b 22)])), (b 17, eI aC 440 z), (b 1, eD aC 192 (dA M.ka c3)), (b 2, eD aC 16 (dA M.kc c3)), (b 3, eD aC 256 (dA M.kq c3)), (b 4, eD aC 16 (dA M.kl c3)), (b 5, eD aC 16 (dA M.kh c3)), (b 6, eD aC 12 (dA M.krl c3)), (b 7, eD aC 12 (dA M.krh c3)), (b 8, eD aC 16 (dA M.kx M.xb)), (b 9, eD aC 12 (dA M.ky M.yb)), (b 10, eZ aC 192 M.ai), (b 11, eZ aC 256 M.qi), (b 12, eZ aC 16 M.li), (b 13, eZ aC 16 M.hi), (b 14, eZ aC 12 M.rli), (b 15, eZ aC 12 M.rhi)] := e9
    subst e9
    change W p l e room_1 s m #[Value.ref sb] below meth c H locs (n1 + 2) (n2 + 12) Q (F0 m 702 ls [.int (iI 0)])
    have hfg := L_fig hd hM hR hok.1 hok.2
    have htz : tZ (mF M (sc xs (i + 1)) (sc xs (i + 2))) = 0 := by
      rcases tZ_01 (mF M (sc xs (i + 1)) (sc xs (i + 2))) with y9 | y9
      · exact y9
      · exact absurd (too_W.mpr (by rw [hfg]; exact y9)) hto
    obtain ⟨m8, q8, hc8, hd8, he8⟩ := cer_W hto
    rw [hfg] at he8
    refine lv_istore (lv' := [(6, .int (iI 0)), (5, .int (iI i)), (4, .ref od), (3, .ref ou), (2, .ref (b 0)), (1, .ref (a 0)), (0, .ref sb)]) hx hb d_La_law_702 hl (by decide) rfl (fun ls hl => ?_)
    refine lv_aload_n hx hb d_La_law_704 rfl (lv_at hl 4 rfl) ?_
    refine lv_aload_n hx hb d_La_law_705 rfl (lv_at hl 6 rfl) ?_
    refine lv_iload hx hb d_La_law_706 (lv_at hl 1 rfl) ?_
    refine lv_iconst (v := iI 1) hx hb d_La_law_708 rfl ?_
    refine x_iadd hx hb d_La_law_709 ?_
    refine x_sld hx hb hXs hbl hbA hS (by omega) (by omega) d_La_law_710 ?_
    have hsc710 := sc_r xs (i + 1)
    refine lv_aload_n hx hb d_La_law_711 rfl (lv_at hl 6 rfl) ?_
    refine lv_iload hx hb d_La_law_712 (lv_at hl 1 rfl) ?_
    refine lv_iconst (v := iI 2) hx hb d_La_law_714 rfl ?_
    refine x_iadd hx hb d_La_law_715 ?_
    refine x_sld hx hb hXs hbl hbA hS (by omega) (by omega) d_La_law_716 ?_
    have hsc716 := sc_r xs (i + 2)
    refine x_callVG S (c_Mo_certify l D aC b M hM er p2 f f1 f2 f3 f4 f5 z (sc xs (i + 2)) (by omega) (sc xs (i + 1)) hok.1 (hR.okA.mp hok.2)) t_La_92 ⟨rfl, rfl, by decide, by decide⟩ hK hN hP hD hS [52, 53, 54, 55, 56, 57, 58, 59] [60, 61, 62, 63, 64, 65, 66, 67, 68, 69, 70, 71, 72, 73, 74] rfl (by decide +kernel) (fun v9 w9 hw => by obtain ⟨m9, q9, rfl, hv1, hv2, h9, r1, r2, r3, r4, r5, p9, z9, rfl⟩ := hw; exact ⟨rfl, Nat.le_of_ble_eq_true rfl⟩) 6 6 rfl rfl rfl hl.1 rfl (Nat.le_of_ble_eq_true rfl) d_La_law_717 ⟨by show n1 + 2 ≤ 601024; omega, by show n2 + 12 ≤ 7293034; omega⟩ (fun v w1 ws1 H locs e9 hw hP hD hS => ?_)
    obtain ⟨m9, q9, rfl, hv1, hv2, h9, r1, r2, r3, r4, r5, p9, z9, rfl⟩ := hw
    have e9 : ws1 = [(ou, eJ aC 1 o1), (od, eD aC 1 (updD o2 0 (cerD (figV d (sc xs (i + 1)) (sc xs (i + 2)))))), (a 44, .inr (3, [.ref (a 45), .int (iI px'), .int (iI pn')])), (a 45, eJ aC 6 pd'), (a 46, .inr (4, [.ref (a 47), .long (lI mt'), .int (iI ee')])), (a 47, eJ aC 112 f'), (a 48, .inr (4, [.ref (a 49), .long (lI mu), .int (iI eu)])), (a 49, eJ aC 112 g'), (a 0, .inr (5, [.ref (a 1), .ref (a 4), .ref (a 7), .ref (a 10), .ref (a 21), .ref (a 32), .ref (a 38), .ref (a 44), .ref (a 46), .ref (a 48)])), (a 1, .inr (0, [.ref (a 2), .ref (a 3)])), (a 2, eJ aC 1 d.om), (a 3, eI aC 1 d.oe), (a 4, .inr (0, [.ref (a 5), .ref (a 6)])), (a 5, eJ aC 1 d.nm), (a 6, eI aC 1 d.ne), (a 7, .inr (0, [.ref (a 8), .ref (a 9)])), (a 8, eJ aC 16 d.cm), (a 9, eI aC 16 d.ce), (a 10, .inr (1, [.ref (a 11), .ref (a 12), .ref (a 15), .ref (a 18), .int (iI d.rc)])), (a 11, eI aC 12 d.rl), (a 12, .inr (0, [.ref (a 13), .ref (a 14)])), (a 13, eJ aC 12 d.rlm), (a 14, eI aC 12 d.rle), (a 15, .inr (0, [.ref (a 16), .ref (a 17)])), (a 16, eJ aC 12 d.rhm), (a 17, eI aC 12 d.rhe), (a 18, .inr (0, [.ref (a 19), .ref (a 20)])), (a 19, eJ aC 12 d.rvm), (a 20, eI aC 12 d.rve), (a 21, .inr (1, [.ref (a 22), .ref (a 23), .ref (a 26), .ref (a 29), .int (iI d.cc)])), (a 22, eI aC 16 d.cl), (a 23, .inr (0, [.ref (a 24), .ref (a 25)])), (a 24, eJ aC 16 d.clm), (a 25, eI aC 16 d.cle), (a 26, .inr (0, [.ref (a 27), .ref (a 28)])), (a 27, eJ aC 16 d.chm), (a 28, eI aC 16 d.che), (a 29, .inr (0, [.ref (a 30), .ref (a 31)])), (a 30, eJ aC 16 d.cvm), (a 31, eI aC 16 d.cve), (a 32, .inr (2, [.ref (a 33), .ref (a 34), .ref (a 35), .int (iI d.ec)])), (a 33, eI aC 100 d.e1), (a 34, eI aC 100 d.e2), (a 35, .inr (0, [.ref (a 36), .ref (a 37)])), (a 36, eJ aC 100 d.em), (a 37, eI aC 100 d.ee), (a 38, .inr (2, [.ref (a 39), .ref (a 40), .ref (a 41), .int (iI d.pc)])), (a 39, eI aC 60 d.p1), (a 40, eI aC 60 d.p2), (a 41, .inr (0, [.ref (a 42), .ref (a 43)])), (a 42, eJ aC 60 d.pm), (a 43, eI aC 60 d.pe), (b 16, eI aC 440 h9), (b 18, eI aC 1200 r1), (b 19, eI aC 1200 r2), (b 20, eI aC 1200 r3), (b 21, eI aC 1200 r4), (b 22, eI aC 1200 r5), (b 0, .inr (6, [.int (iI (3 * tZ (mF M (sc xs (i + 1)) (sc xs (i + 2))))), .int (iI M.rw), .int (iI M.cn), .int (iI M.en), .int (iI M.pr), .double (dM M.ko (-3)), .ref (b 1), .ref (b 2), .ref (b 3), .ref (b 4), .ref (b 5), .ref (b 6), .ref (b 7), .ref (b 8), .ref (b 9), .ref (b 10), .ref (b 11), .ref (b 12), .ref (b 13), .ref (b 14), .ref (b 15), .int (iI p9), .ref (b 16), .ref (b 17), .ref (b 18), .ref (b 19), .ref (b 20), .ref (b 21), .ref (b 22)])), (b 17, eI aC 440 z9), (b 1, eD aC 192 (dA M.ka c3)), (b 2, eD aC 16 (dA M.kc c3)), (b 3, eD aC 256 (dA M.kq c3)), (b 4, eD aC 16 (dA M.kl c3)), (b 5, eD aC 16 (dA M.kh c3)), (b 6, eD aC 12 (dA M.krl c3)), (b 7, eD aC 12 (dA M.krh c3)), (b 8, eD aC 16 (dA M.kx M.xb)), (b 9, eD aC 12 (dA M.ky M.yb)), (b 10, eZ aC 192 M.ai), (b 11, eZ aC 256 M.qi), (b 12, eZ aC 16 M.li), (b 13, eZ aC 16 M.hi), (b 14, eZ aC 12 M.rli), (b 15, eZ aC 12 M.rhi)] := e9
    subst e9
    change W p l e room_1 s m #[Value.ref sb] below meth c H locs (n1 + 2) (n2 + 12) Q (F0 m 720 ls [.double (dM m9 q9)])
    refine lv_dstore (lv' := [(7, .double (dM m9 q9)), (6, .int (iI 0)), (5, .int (iI i)), (4, .ref od), (3, .ref ou), (2, .ref (b 0)), (1, .ref (a 0)), (0, .ref sb)]) hx hb d_La_law_720 hl (by decide) rfl (fun ls hl => ?_)
    refine lv_aload_n hx hb d_La_law_722 rfl (lv_at hl 5 rfl) ?_
    refine y_callV1 (V := .int (iI (3 * tZ (mF M (sc xs (i + 1)) (sc xs (i + 2)))))) S (c_Mo_thrown l D aC b M (3 * tZ (mF M (sc xs (i + 1)) (sc xs (i + 2)))) p9) t_La_63 (rm_9 (by decide) (by decide)) hK hN hP [58] rfl 0 6 rfl rfl rfl hl.1 rfl (Nat.le_of_ble_eq_true rfl) d_La_law_723 ⟨by show n1 + 2 ≤ 601024; omega, by show n2 + 12 ≤ 7293034; omega⟩ ?_
    refine lv_iload hx hb d_La_law_726 (lv_at hl 1 rfl) ?_
    refine x_icmp_eq (tgt := 733) hx hb d_La_law_728 (by decide) (by omega) (by omega) (fun c_728 => ?_) (fun c_728 => (by exfalso; omega))
    refine lv_iload hx hb d_La_law_733 (lv_at hl 1 rfl) ?_
    refine x_if_ne (tgt := 770) hx hb d_La_law_735 (by decide) (by decide) (fun c_735 => (by exfalso; omega)) (fun c_735 => ?_)
    refine lv_aload hx hb d_La_law_738 (lv_at hl 3 rfl) ?_
    refine lv_iconst (v := iI 0) hx hb d_La_law_740 rfl ?_
    refine x_dald hx hb hK hP 1 rfl (by omega) (by decide) d_La_law_741 ?_
    refine x_topD m8 q8 ((updD_s _ _ _).trans hc8) ?_
    refine lv_dload hx hb d_La_law_742 (lv_at hl 0 rfl) ?_
    refine x_dcmp_eq (tgt := 770) hx hb d_La_law_744 d_La_law_745 (by decide) (by assumption) (by assumption) (fun c_744 => ?_) (fun c_744 => (absurd (he8.trans (hv2 htz).symm) c_744))
    refine lv_goto (tgt := 841) hx hb d_La_law_770 (by decide) ?_
    refine W.widen (k := n1 + 2) (n := n2 + 12) (by omega) (by omega) ?_
    exact kk d M pd' px' pn' f' mt' ee' g' mu eu (3 * tZ (mF M (sc xs (i + 1)) (sc xs (i + 2)))) p9 h9 r1 r2 r3 r4 r5 z9 o1 (updD o2 0 (cerD (figV d (sc xs (i + 1)) (sc xs (i + 2))))) _ _ _ (hd) (hM) (hR) hP hD hS (lv_sub hl [2, 3, 4, 5, 6, 7] rfl)
  · have e9 : ws1 = [(ou, eJ aC 1 o1), (od, eD aC 1 o2), (a 44, .inr (3, [.ref (a 45), .int (iI px), .int (iI pn)])), (a 45, eJ aC 6 pd), (a 46, .inr (4, [.ref (a 47), .long (lI mt), .int (iI ee)])), (a 47, eJ aC 112 fd), (a 48, .inr (4, [.ref (a 49), .long (lI mu), .int (iI eu)])), (a 49, eJ aC 112 gd), (a 0, .inr (5, [.ref (a 1), .ref (a 4), .ref (a 7), .ref (a 10), .ref (a 21), .ref (a 32), .ref (a 38), .ref (a 44), .ref (a 46), .ref (a 48)])), (a 1, .inr (0, [.ref (a 2), .ref (a 3)])), (a 2, eJ aC 1 d.om), (a 3, eI aC 1 d.oe), (a 4, .inr (0, [.ref (a 5), .ref (a 6)])), (a 5, eJ aC 1 d.nm), (a 6, eI aC 1 d.ne), (a 7, .inr (0, [.ref (a 8), .ref (a 9)])), (a 8, eJ aC 16 d.cm), (a 9, eI aC 16 d.ce), (a 10, .inr (1, [.ref (a 11), .ref (a 12), .ref (a 15), .ref (a 18), .int (iI d.rc)])), (a 11, eI aC 12 d.rl), (a 12, .inr (0, [.ref (a 13), .ref (a 14)])), (a 13, eJ aC 12 d.rlm), (a 14, eI aC 12 d.rle), (a 15, .inr (0, [.ref (a 16), .ref (a 17)])), (a 16, eJ aC 12 d.rhm), (a 17, eI aC 12 d.rhe), (a 18, .inr (0, [.ref (a 19), .ref (a 20)])), (a 19, eJ aC 12 d.rvm), (a 20, eI aC 12 d.rve), (a 21, .inr (1, [.ref (a 22), .ref (a 23), .ref (a 26), .ref (a 29), .int (iI d.cc)])), (a 22, eI aC 16 d.cl), (a 23, .inr (0, [.ref (a 24), .ref (a 25)])), (a 24, eJ aC 16 d.clm), (a 25, eI aC 16 d.cle), (a 26, .inr (0, [.ref (a 27), .ref (a 28)])), (a 27, eJ aC 16 d.chm), (a 28, eI aC 16 d.che), (a 29, .inr (0, [.ref (a 30), .ref (a 31)])), (a 30, eJ aC 16 d.cvm), (a 31, eI aC 16 d.cve), (a 32, .inr (2, [.ref (a 33), .ref (a 34), .ref (a 35), .int (iI d.ec)])), (a 33, eI aC 100 d.e1), (a 34, eI aC 100 d.e2), (a 35, .inr (0, [.ref (a 36), .ref (a 37)])), (a 36, eJ aC 100 d.em), (a 37, eI aC 100 d.ee), (a 38, .inr (2, [.ref (a 39), .ref (a 40), .ref (a 41), .int (iI d.pc)])), (a 39, eI aC 60 d.p1), (a 40, eI aC 60 d.p2), (a 41, .inr (0, [.ref (a 42), .ref (a 43)])), (a 42, eJ aC 60 d.pm), (a 43, eI aC 60 d.pe), (b 16, eI aC 440 f), (b 18, eI aC 1200 f1), (b 19, eI aC 1200 f2), (b 20, eI aC 1200 f3), (b 21, eI aC 1200 f4), (b 22, eI aC 1200 f5), (b 0, .inr (6, [.int (iI er), .int (iI M.rw), .int (iI M.cn), .int (iI M.en), .int (iI M.pr), .double (dM M.ko (-3)), .ref (b 1), .ref (b 2), .ref (b 3), .ref (b 4), .ref (b 5), .ref (b 6), .ref (b 7), .ref (b 8), .ref (b 9), .ref (b 10), .ref (b 11), .ref (b 12), .ref (b 13), .ref (b 14), .ref (b 15), .int (iI p2), .ref (b 16), .ref (b 17), .ref (b 18), .ref (b 19), .ref (b 20), .ref (b 21), .ref (b 22)])), (b 17, eI aC 440 z), (b 1, eD aC 192 (dA M.ka c3)), (b 2, eD aC 16 (dA M.kc c3)), (b 3, eD aC 256 (dA M.kq c3)), (b 4, eD aC 16 (dA M.kl c3)), (b 5, eD aC 16 (dA M.kh c3)), (b 6, eD aC 12 (dA M.krl c3)), (b 7, eD aC 12 (dA M.krh c3)), (b 8, eD aC 16 (dA M.kx M.xb)), (b 9, eD aC 12 (dA M.ky M.yb)), (b 10, eZ aC 192 M.ai), (b 11, eZ aC 256 M.qi), (b 12, eZ aC 16 M.li), (b 13, eZ aC 16 M.hi), (b 14, eZ aC 12 M.rli), (b 15, eZ aC 12 M.rhi)] := e9
    subst e9
    change W p l e room_1 s m #[Value.ref sb] below meth c H locs (n1 + 2) (n2 + 12) Q (F0 m 702 ls [.int (iI 1)])
    skip
    refine lv_istore (lv' := [(6, .int (iI 1)), (5, .int (iI i)), (4, .ref od), (3, .ref ou), (2, .ref (b 0)), (1, .ref (a 0)), (0, .ref sb)]) hx hb d_La_law_702 hl (by decide) rfl (fun ls hl => ?_)
    refine lv_aload_n hx hb d_La_law_704 rfl (lv_at hl 4 rfl) ?_
    refine lv_aload_n hx hb d_La_law_705 rfl (lv_at hl 6 rfl) ?_
    refine lv_iload hx hb d_La_law_706 (lv_at hl 1 rfl) ?_
    refine lv_iconst (v := iI 1) hx hb d_La_law_708 rfl ?_
    refine x_iadd hx hb d_La_law_709 ?_
    refine x_sld hx hb hXs hbl hbA hS (by omega) (by omega) d_La_law_710 ?_
    have hsc710 := sc_r xs (i + 1)
    refine lv_aload_n hx hb d_La_law_711 rfl (lv_at hl 6 rfl) ?_
    refine lv_iload hx hb d_La_law_712 (lv_at hl 1 rfl) ?_
    refine lv_iconst (v := iI 2) hx hb d_La_law_714 rfl ?_
    refine x_iadd hx hb d_La_law_715 ?_
    refine x_sld hx hb hXs hbl hbA hS (by omega) (by omega) d_La_law_716 ?_
    have hsc716 := sc_r xs (i + 2)
    refine x_callVG S (c_Mo_certify_b1 l D aC b M hM er p2 (sc xs (i + 1)) (sc xs (i + 2)) (by omega) (by omega) hok) t_La_92 ⟨rfl, rfl, by decide, by decide⟩ hK hN hP hD hS [58] [] rfl (by decide +kernel) (fun v9 w9 hw => by obtain ⟨rfl, rfl⟩ := hw; exact ⟨rfl, Nat.le_of_ble_eq_true rfl⟩) 0 6 rfl rfl rfl hl.1 rfl (Nat.le_of_ble_eq_true rfl) d_La_law_717 ⟨by show n1 + 2 ≤ 601024; omega, by show n2 + 12 ≤ 7293034; omega⟩ (fun v w1 ws1 H locs e9 hw hP hD hS => ?_)
    obtain ⟨rfl, rfl⟩ := hw
    have e9 : ws1 = [(ou, eJ aC 1 o1), (od, eD aC 1 o2), (a 44, .inr (3, [.ref (a 45), .int (iI px), .int (iI pn)])), (a 45, eJ aC 6 pd), (a 46, .inr (4, [.ref (a 47), .long (lI mt), .int (iI ee)])), (a 47, eJ aC 112 fd), (a 48, .inr (4, [.ref (a 49), .long (lI mu), .int (iI eu)])), (a 49, eJ aC 112 gd), (a 0, .inr (5, [.ref (a 1), .ref (a 4), .ref (a 7), .ref (a 10), .ref (a 21), .ref (a 32), .ref (a 38), .ref (a 44), .ref (a 46), .ref (a 48)])), (a 1, .inr (0, [.ref (a 2), .ref (a 3)])), (a 2, eJ aC 1 d.om), (a 3, eI aC 1 d.oe), (a 4, .inr (0, [.ref (a 5), .ref (a 6)])), (a 5, eJ aC 1 d.nm), (a 6, eI aC 1 d.ne), (a 7, .inr (0, [.ref (a 8), .ref (a 9)])), (a 8, eJ aC 16 d.cm), (a 9, eI aC 16 d.ce), (a 10, .inr (1, [.ref (a 11), .ref (a 12), .ref (a 15), .ref (a 18), .int (iI d.rc)])), (a 11, eI aC 12 d.rl), (a 12, .inr (0, [.ref (a 13), .ref (a 14)])), (a 13, eJ aC 12 d.rlm), (a 14, eI aC 12 d.rle), (a 15, .inr (0, [.ref (a 16), .ref (a 17)])), (a 16, eJ aC 12 d.rhm), (a 17, eI aC 12 d.rhe), (a 18, .inr (0, [.ref (a 19), .ref (a 20)])), (a 19, eJ aC 12 d.rvm), (a 20, eI aC 12 d.rve), (a 21, .inr (1, [.ref (a 22), .ref (a 23), .ref (a 26), .ref (a 29), .int (iI d.cc)])), (a 22, eI aC 16 d.cl), (a 23, .inr (0, [.ref (a 24), .ref (a 25)])), (a 24, eJ aC 16 d.clm), (a 25, eI aC 16 d.cle), (a 26, .inr (0, [.ref (a 27), .ref (a 28)])), (a 27, eJ aC 16 d.chm), (a 28, eI aC 16 d.che), (a 29, .inr (0, [.ref (a 30), .ref (a 31)])), (a 30, eJ aC 16 d.cvm), (a 31, eI aC 16 d.cve), (a 32, .inr (2, [.ref (a 33), .ref (a 34), .ref (a 35), .int (iI d.ec)])), (a 33, eI aC 100 d.e1), (a 34, eI aC 100 d.e2), (a 35, .inr (0, [.ref (a 36), .ref (a 37)])), (a 36, eJ aC 100 d.em), (a 37, eI aC 100 d.ee), (a 38, .inr (2, [.ref (a 39), .ref (a 40), .ref (a 41), .int (iI d.pc)])), (a 39, eI aC 60 d.p1), (a 40, eI aC 60 d.p2), (a 41, .inr (0, [.ref (a 42), .ref (a 43)])), (a 42, eJ aC 60 d.pm), (a 43, eI aC 60 d.pe), (b 16, eI aC 440 f), (b 18, eI aC 1200 f1), (b 19, eI aC 1200 f2), (b 20, eI aC 1200 f3), (b 21, eI aC 1200 f4), (b 22, eI aC 1200 f5), (b 0, .inr (6, [.int (iI 1), .int (iI M.rw), .int (iI M.cn), .int (iI M.en), .int (iI M.pr), .double (dM M.ko (-3)), .ref (b 1), .ref (b 2), .ref (b 3), .ref (b 4), .ref (b 5), .ref (b 6), .ref (b 7), .ref (b 8), .ref (b 9), .ref (b 10), .ref (b 11), .ref (b 12), .ref (b 13), .ref (b 14), .ref (b 15), .int (iI p2), .ref (b 16), .ref (b 17), .ref (b 18), .ref (b 19), .ref (b 20), .ref (b 21), .ref (b 22)])), (b 17, eI aC 440 z), (b 1, eD aC 192 (dA M.ka c3)), (b 2, eD aC 16 (dA M.kc c3)), (b 3, eD aC 256 (dA M.kq c3)), (b 4, eD aC 16 (dA M.kl c3)), (b 5, eD aC 16 (dA M.kh c3)), (b 6, eD aC 12 (dA M.krl c3)), (b 7, eD aC 12 (dA M.krh c3)), (b 8, eD aC 16 (dA M.kx M.xb)), (b 9, eD aC 12 (dA M.ky M.yb)), (b 10, eZ aC 192 M.ai), (b 11, eZ aC 256 M.qi), (b 12, eZ aC 16 M.li), (b 13, eZ aC 16 M.hi), (b 14, eZ aC 12 M.rli), (b 15, eZ aC 12 M.rhi)] := e9
    subst e9
    change W p l e room_1 s m #[Value.ref sb] below meth c H locs (n1 + 2) (n2 + 12) Q (F0 m 720 ls [.double (dM 0 0)])
    refine lv_dstore (lv' := [(7, .double (dM 0 0)), (6, .int (iI 1)), (5, .int (iI i)), (4, .ref od), (3, .ref ou), (2, .ref (b 0)), (1, .ref (a 0)), (0, .ref sb)]) hx hb d_La_law_720 hl (by decide) rfl (fun ls hl => ?_)
    refine lv_aload_n hx hb d_La_law_722 rfl (lv_at hl 5 rfl) ?_
    refine y_callV1 (V := .int (iI 1)) S (c_Mo_thrown l D aC b M 1 p2) t_La_63 (rm_9 (by decide) (by decide)) hK hN hP [58] rfl 0 6 rfl rfl rfl hl.1 rfl (Nat.le_of_ble_eq_true rfl) d_La_law_723 ⟨by show n1 + 2 ≤ 601024; omega, by show n2 + 12 ≤ 7293034; omega⟩ ?_
    refine lv_iload hx hb d_La_law_726 (lv_at hl 1 rfl) ?_
    refine x_icmp_eq (tgt := 733) hx hb d_La_law_728 (by decide) (by omega) (by omega) (fun c_728 => ?_) (fun c_728 => (by exfalso; omega))
    refine lv_iload hx hb d_La_law_733 (lv_at hl 1 rfl) ?_
    refine x_if_ne (tgt := 770) hx hb d_La_law_735 (by decide) (by decide) (fun c_735 => ?_) (fun c_735 => (by exfalso; omega))
    refine lv_goto (tgt := 841) hx hb d_La_law_770 (by decide) ?_
    refine W.widen (k := n1 + 2) (n := n2 + 12) (by omega) (by omega) ?_
    exact kk d M pd px pn fd mt ee gd mu eu 1 p2 f f1 f2 f3 f4 f5 z o1 o2 _ _ _ (hd) (hM) (hR) hP hD hS (lv_sub hl [2, 3, 4, 5, 6, 7] rfl)
  · have e9 : ws1 = [(ou, eJ aC 1 o1), (od, eD aC 1 o2), (a 44, .inr (3, [.ref (a 45), .int (iI px), .int (iI pn)])), (a 45, eJ aC 6 pd), (a 46, .inr (4, [.ref (a 47), .long (lI mt), .int (iI ee)])), (a 47, eJ aC 112 fd), (a 48, .inr (4, [.ref (a 49), .long (lI mu), .int (iI eu)])), (a 49, eJ aC 112 gd), (a 0, .inr (5, [.ref (a 1), .ref (a 4), .ref (a 7), .ref (a 10), .ref (a 21), .ref (a 32), .ref (a 38), .ref (a 44), .ref (a 46), .ref (a 48)])), (a 1, .inr (0, [.ref (a 2), .ref (a 3)])), (a 2, eJ aC 1 d.om), (a 3, eI aC 1 d.oe), (a 4, .inr (0, [.ref (a 5), .ref (a 6)])), (a 5, eJ aC 1 d.nm), (a 6, eI aC 1 d.ne), (a 7, .inr (0, [.ref (a 8), .ref (a 9)])), (a 8, eJ aC 16 d.cm), (a 9, eI aC 16 d.ce), (a 10, .inr (1, [.ref (a 11), .ref (a 12), .ref (a 15), .ref (a 18), .int (iI d.rc)])), (a 11, eI aC 12 d.rl), (a 12, .inr (0, [.ref (a 13), .ref (a 14)])), (a 13, eJ aC 12 d.rlm), (a 14, eI aC 12 d.rle), (a 15, .inr (0, [.ref (a 16), .ref (a 17)])), (a 16, eJ aC 12 d.rhm), (a 17, eI aC 12 d.rhe), (a 18, .inr (0, [.ref (a 19), .ref (a 20)])), (a 19, eJ aC 12 d.rvm), (a 20, eI aC 12 d.rve), (a 21, .inr (1, [.ref (a 22), .ref (a 23), .ref (a 26), .ref (a 29), .int (iI d.cc)])), (a 22, eI aC 16 d.cl), (a 23, .inr (0, [.ref (a 24), .ref (a 25)])), (a 24, eJ aC 16 d.clm), (a 25, eI aC 16 d.cle), (a 26, .inr (0, [.ref (a 27), .ref (a 28)])), (a 27, eJ aC 16 d.chm), (a 28, eI aC 16 d.che), (a 29, .inr (0, [.ref (a 30), .ref (a 31)])), (a 30, eJ aC 16 d.cvm), (a 31, eI aC 16 d.cve), (a 32, .inr (2, [.ref (a 33), .ref (a 34), .ref (a 35), .int (iI d.ec)])), (a 33, eI aC 100 d.e1), (a 34, eI aC 100 d.e2), (a 35, .inr (0, [.ref (a 36), .ref (a 37)])), (a 36, eJ aC 100 d.em), (a 37, eI aC 100 d.ee), (a 38, .inr (2, [.ref (a 39), .ref (a 40), .ref (a 41), .int (iI d.pc)])), (a 39, eI aC 60 d.p1), (a 40, eI aC 60 d.p2), (a 41, .inr (0, [.ref (a 42), .ref (a 43)])), (a 42, eJ aC 60 d.pm), (a 43, eI aC 60 d.pe), (b 16, eI aC 440 f), (b 18, eI aC 1200 f1), (b 19, eI aC 1200 f2), (b 20, eI aC 1200 f3), (b 21, eI aC 1200 f4), (b 22, eI aC 1200 f5), (b 0, .inr (6, [.int (iI er), .int (iI M.rw), .int (iI M.cn), .int (iI M.en), .int (iI M.pr), .double (dM M.ko (-3)), .ref (b 1), .ref (b 2), .ref (b 3), .ref (b 4), .ref (b 5), .ref (b 6), .ref (b 7), .ref (b 8), .ref (b 9), .ref (b 10), .ref (b 11), .ref (b 12), .ref (b 13), .ref (b 14), .ref (b 15), .int (iI p2), .ref (b 16), .ref (b 17), .ref (b 18), .ref (b 19), .ref (b 20), .ref (b 21), .ref (b 22)])), (b 17, eI aC 440 z), (b 1, eD aC 192 (dA M.ka c3)), (b 2, eD aC 16 (dA M.kc c3)), (b 3, eD aC 256 (dA M.kq c3)), (b 4, eD aC 16 (dA M.kl c3)), (b 5, eD aC 16 (dA M.kh c3)), (b 6, eD aC 12 (dA M.krl c3)), (b 7, eD aC 12 (dA M.krh c3)), (b 8, eD aC 16 (dA M.kx M.xb)), (b 9, eD aC 12 (dA M.ky M.yb)), (b 10, eZ aC 192 M.ai), (b 11, eZ aC 256 M.qi), (b 12, eZ aC 16 M.li), (b 13, eZ aC 16 M.hi), (b 14, eZ aC 12 M.rli), (b 15, eZ aC 12 M.rhi)] := e9
    subst e9
    change W p l e room_1 s m #[Value.ref sb] below meth c H locs (n1 + 2) (n2 + 12) Q (F0 m 702 ls [.int (iI 2)])
    skip
    refine lv_istore (lv' := [(6, .int (iI 2)), (5, .int (iI i)), (4, .ref od), (3, .ref ou), (2, .ref (b 0)), (1, .ref (a 0)), (0, .ref sb)]) hx hb d_La_law_702 hl (by decide) rfl (fun ls hl => ?_)
    refine lv_aload_n hx hb d_La_law_704 rfl (lv_at hl 4 rfl) ?_
    refine lv_aload_n hx hb d_La_law_705 rfl (lv_at hl 6 rfl) ?_
    refine lv_iload hx hb d_La_law_706 (lv_at hl 1 rfl) ?_
    refine lv_iconst (v := iI 1) hx hb d_La_law_708 rfl ?_
    refine x_iadd hx hb d_La_law_709 ?_
    refine x_sld hx hb hXs hbl hbA hS (by omega) (by omega) d_La_law_710 ?_
    have hsc710 := sc_r xs (i + 1)
    refine lv_aload_n hx hb d_La_law_711 rfl (lv_at hl 6 rfl) ?_
    refine lv_iload hx hb d_La_law_712 (lv_at hl 1 rfl) ?_
    refine lv_iconst (v := iI 2) hx hb d_La_law_714 rfl ?_
    refine x_iadd hx hb d_La_law_715 ?_
    refine x_sld hx hb hXs hbl hbA hS (by omega) (by omega) d_La_law_716 ?_
    have hsc716 := sc_r xs (i + 2)
    refine x_callVG S (c_Mo_certify_b2 l D aC b M hM er p2 (sc xs (i + 1)) (sc xs (i + 2)) (by omega) (by omega) hok.1 (fun z9 => hok.2 (hR.okA.mpr z9))) t_La_92 ⟨rfl, rfl, by decide, by decide⟩ hK hN hP hD hS [58] [] rfl (by decide +kernel) (fun v9 w9 hw => by obtain ⟨rfl, rfl⟩ := hw; exact ⟨rfl, Nat.le_of_ble_eq_true rfl⟩) 0 6 rfl rfl rfl hl.1 rfl (Nat.le_of_ble_eq_true rfl) d_La_law_717 ⟨by show n1 + 2 ≤ 601024; omega, by show n2 + 12 ≤ 7293034; omega⟩ (fun v w1 ws1 H locs e9 hw hP hD hS => ?_)
    obtain ⟨rfl, rfl⟩ := hw
    have e9 : ws1 = [(ou, eJ aC 1 o1), (od, eD aC 1 o2), (a 44, .inr (3, [.ref (a 45), .int (iI px), .int (iI pn)])), (a 45, eJ aC 6 pd), (a 46, .inr (4, [.ref (a 47), .long (lI mt), .int (iI ee)])), (a 47, eJ aC 112 fd), (a 48, .inr (4, [.ref (a 49), .long (lI mu), .int (iI eu)])), (a 49, eJ aC 112 gd), (a 0, .inr (5, [.ref (a 1), .ref (a 4), .ref (a 7), .ref (a 10), .ref (a 21), .ref (a 32), .ref (a 38), .ref (a 44), .ref (a 46), .ref (a 48)])), (a 1, .inr (0, [.ref (a 2), .ref (a 3)])), (a 2, eJ aC 1 d.om), (a 3, eI aC 1 d.oe), (a 4, .inr (0, [.ref (a 5), .ref (a 6)])), (a 5, eJ aC 1 d.nm), (a 6, eI aC 1 d.ne), (a 7, .inr (0, [.ref (a 8), .ref (a 9)])), (a 8, eJ aC 16 d.cm), (a 9, eI aC 16 d.ce), (a 10, .inr (1, [.ref (a 11), .ref (a 12), .ref (a 15), .ref (a 18), .int (iI d.rc)])), (a 11, eI aC 12 d.rl), (a 12, .inr (0, [.ref (a 13), .ref (a 14)])), (a 13, eJ aC 12 d.rlm), (a 14, eI aC 12 d.rle), (a 15, .inr (0, [.ref (a 16), .ref (a 17)])), (a 16, eJ aC 12 d.rhm), (a 17, eI aC 12 d.rhe), (a 18, .inr (0, [.ref (a 19), .ref (a 20)])), (a 19, eJ aC 12 d.rvm), (a 20, eI aC 12 d.rve), (a 21, .inr (1, [.ref (a 22), .ref (a 23), .ref (a 26), .ref (a 29), .int (iI d.cc)])), (a 22, eI aC 16 d.cl), (a 23, .inr (0, [.ref (a 24), .ref (a 25)])), (a 24, eJ aC 16 d.clm), (a 25, eI aC 16 d.cle), (a 26, .inr (0, [.ref (a 27), .ref (a 28)])), (a 27, eJ aC 16 d.chm), (a 28, eI aC 16 d.che), (a 29, .inr (0, [.ref (a 30), .ref (a 31)])), (a 30, eJ aC 16 d.cvm), (a 31, eI aC 16 d.cve), (a 32, .inr (2, [.ref (a 33), .ref (a 34), .ref (a 35), .int (iI d.ec)])), (a 33, eI aC 100 d.e1), (a 34, eI aC 100 d.e2), (a 35, .inr (0, [.ref (a 36), .ref (a 37)])), (a 36, eJ aC 100 d.em), (a 37, eI aC 100 d.ee), (a 38, .inr (2, [.ref (a 39), .ref (a 40), .ref (a 41), .int (iI d.pc)])), (a 39, eI aC 60 d.p1), (a 40, eI aC 60 d.p2), (a 41, .inr (0, [.ref (a 42), .ref (a 43)])), (a 42, eJ aC 60 d.pm), (a 43, eI aC 60 d.pe), (b 16, eI aC 440 f), (b 18, eI aC 1200 f1), (b 19, eI aC 1200 f2), (b 20, eI aC 1200 f3), (b 21, eI aC 1200 f4), (b 22, eI aC 1200 f5), (b 0, .inr (6, [.int (iI 2), .int (iI M.rw), .int (iI M.cn), .int (iI M.en), .int (iI M.pr), .double (dM M.ko (-3)), .ref (b 1), .ref (b 2), .ref (b 3), .ref (b 4), .ref (b 5), .ref (b 6), .ref (b 7), .ref (b 8), .ref (b 9), .ref (b 10), .ref (b 11), .ref (b 12), .ref (b 13), .ref (b 14), .ref (b 15), .int (iI p2), .ref (b 16), .ref (b 17), .ref (b 18), .ref (b 19), .ref (b 20), .ref (b 21), .ref (b 22)])), (b 17, eI aC 440 z), (b 1, eD aC 192 (dA M.ka c3)), (b 2, eD aC 16 (dA M.kc c3)), (b 3, eD aC 256 (dA M.kq c3)), (b 4, eD aC 16 (dA M.kl c3)), (b 5, eD aC 16 (dA M.kh c3)), (b 6, eD aC 12 (dA M.krl c3)), (b 7, eD aC 12 (dA M.krh c3)), (b 8, eD aC 16 (dA M.kx M.xb)), (b 9, eD aC 12 (dA M.ky M.yb)), (b 10, eZ aC 192 M.ai), (b 11, eZ aC 256 M.qi), (b 12, eZ aC 16 M.li), (b 13, eZ aC 16 M.hi), (b 14, eZ aC 12 M.rli), (b 15, eZ aC 12 M.rhi)] := e9
    subst e9
    change W p l e room_1 s m #[Value.ref sb] below meth c H locs (n1 + 2) (n2 + 12) Q (F0 m 720 ls [.double (dM 0 0)])
    refine lv_dstore (lv' := [(7, .double (dM 0 0)), (6, .int (iI 2)), (5, .int (iI i)), (4, .ref od), (3, .ref ou), (2, .ref (b 0)), (1, .ref (a 0)), (0, .ref sb)]) hx hb d_La_law_720 hl (by decide) rfl (fun ls hl => ?_)
    refine lv_aload_n hx hb d_La_law_722 rfl (lv_at hl 5 rfl) ?_
    refine y_callV1 (V := .int (iI 2)) S (c_Mo_thrown l D aC b M 2 p2) t_La_63 (rm_9 (by decide) (by decide)) hK hN hP [58] rfl 0 6 rfl rfl rfl hl.1 rfl (Nat.le_of_ble_eq_true rfl) d_La_law_723 ⟨by show n1 + 2 ≤ 601024; omega, by show n2 + 12 ≤ 7293034; omega⟩ ?_
    refine lv_iload hx hb d_La_law_726 (lv_at hl 1 rfl) ?_
    refine x_icmp_eq (tgt := 733) hx hb d_La_law_728 (by decide) (by omega) (by omega) (fun c_728 => ?_) (fun c_728 => (by exfalso; omega))
    refine lv_iload hx hb d_La_law_733 (lv_at hl 1 rfl) ?_
    refine x_if_ne (tgt := 770) hx hb d_La_law_735 (by decide) (by decide) (fun c_735 => ?_) (fun c_735 => (by exfalso; omega))
    refine lv_goto (tgt := 841) hx hb d_La_law_770 (by decide) ?_
    refine W.widen (k := n1 + 2) (n := n2 + 12) (by omega) (by omega) ?_
    exact kk d M pd px pn fd mt ee gd mu eu 2 p2 f f1 f2 f3 f4 f5 z o1 o2 _ _ _ (hd) (hM) (hR) hP hD hS (lv_sub hl [2, 3, 4, 5, 6, 7] rfl)
  · have e9 : ws1 = [(ou, eJ aC 1 o1), (od, eD aC 1 o2), (a 44, .inr (3, [.ref (a 45), .int (iI px'), .int (iI pn')])), (a 45, eJ aC 6 pd'), (a 46, .inr (4, [.ref (a 47), .long (lI mt'), .int (iI ee')])), (a 47, eJ aC 112 f'), (a 48, .inr (4, [.ref (a 49), .long (lI mu), .int (iI eu)])), (a 49, eJ aC 112 g'), (a 0, .inr (5, [.ref (a 1), .ref (a 4), .ref (a 7), .ref (a 10), .ref (a 21), .ref (a 32), .ref (a 38), .ref (a 44), .ref (a 46), .ref (a 48)])), (a 1, .inr (0, [.ref (a 2), .ref (a 3)])), (a 2, eJ aC 1 d.om), (a 3, eI aC 1 d.oe), (a 4, .inr (0, [.ref (a 5), .ref (a 6)])), (a 5, eJ aC 1 d.nm), (a 6, eI aC 1 d.ne), (a 7, .inr (0, [.ref (a 8), .ref (a 9)])), (a 8, eJ aC 16 d.cm), (a 9, eI aC 16 d.ce), (a 10, .inr (1, [.ref (a 11), .ref (a 12), .ref (a 15), .ref (a 18), .int (iI d.rc)])), (a 11, eI aC 12 d.rl), (a 12, .inr (0, [.ref (a 13), .ref (a 14)])), (a 13, eJ aC 12 d.rlm), (a 14, eI aC 12 d.rle), (a 15, .inr (0, [.ref (a 16), .ref (a 17)])), (a 16, eJ aC 12 d.rhm), (a 17, eI aC 12 d.rhe), (a 18, .inr (0, [.ref (a 19), .ref (a 20)])), (a 19, eJ aC 12 d.rvm), (a 20, eI aC 12 d.rve), (a 21, .inr (1, [.ref (a 22), .ref (a 23), .ref (a 26), .ref (a 29), .int (iI d.cc)])), (a 22, eI aC 16 d.cl), (a 23, .inr (0, [.ref (a 24), .ref (a 25)])), (a 24, eJ aC 16 d.clm), (a 25, eI aC 16 d.cle), (a 26, .inr (0, [.ref (a 27), .ref (a 28)])), (a 27, eJ aC 16 d.chm), (a 28, eI aC 16 d.che), (a 29, .inr (0, [.ref (a 30), .ref (a 31)])), (a 30, eJ aC 16 d.cvm), (a 31, eI aC 16 d.cve), (a 32, .inr (2, [.ref (a 33), .ref (a 34), .ref (a 35), .int (iI d.ec)])), (a 33, eI aC 100 d.e1), (a 34, eI aC 100 d.e2), (a 35, .inr (0, [.ref (a 36), .ref (a 37)])), (a 36, eJ aC 100 d.em), (a 37, eI aC 100 d.ee), (a 38, .inr (2, [.ref (a 39), .ref (a 40), .ref (a 41), .int (iI d.pc)])), (a 39, eI aC 60 d.p1), (a 40, eI aC 60 d.p2), (a 41, .inr (0, [.ref (a 42), .ref (a 43)])), (a 42, eJ aC 60 d.pm), (a 43, eI aC 60 d.pe), (b 16, eI aC 440 f), (b 18, eI aC 1200 f1), (b 19, eI aC 1200 f2), (b 20, eI aC 1200 f3), (b 21, eI aC 1200 f4), (b 22, eI aC 1200 f5), (b 0, .inr (6, [.int (iI er), .int (iI M.rw), .int (iI M.cn), .int (iI M.en), .int (iI M.pr), .double (dM M.ko (-3)), .ref (b 1), .ref (b 2), .ref (b 3), .ref (b 4), .ref (b 5), .ref (b 6), .ref (b 7), .ref (b 8), .ref (b 9), .ref (b 10), .ref (b 11), .ref (b 12), .ref (b 13), .ref (b 14), .ref (b 15), .int (iI p2), .ref (b 16), .ref (b 17), .ref (b 18), .ref (b 19), .ref (b 20), .ref (b 21), .ref (b 22)])), (b 17, eI aC 440 z), (b 1, eD aC 192 (dA M.ka c3)), (b 2, eD aC 16 (dA M.kc c3)), (b 3, eD aC 256 (dA M.kq c3)), (b 4, eD aC 16 (dA M.kl c3)), (b 5, eD aC 16 (dA M.kh c3)), (b 6, eD aC 12 (dA M.krl c3)), (b 7, eD aC 12 (dA M.krh c3)), (b 8, eD aC 16 (dA M.kx M.xb)), (b 9, eD aC 12 (dA M.ky M.yb)), (b 10, eZ aC 192 M.ai), (b 11, eZ aC 256 M.qi), (b 12, eZ aC 16 M.li), (b 13, eZ aC 16 M.hi), (b 14, eZ aC 12 M.rli), (b 15, eZ aC 12 M.rhi)] := e9
    subst e9
    change W p l e room_1 s m #[Value.ref sb] below meth c H locs (n1 + 2) (n2 + 12) Q (F0 m 702 ls [.int (iI 3)])
    have hfg := L_fig hd hM hR hok.1 hok.2
    have htz : tZ (mF M (sc xs (i + 1)) (sc xs (i + 2))) = 1 := by rw [← hfg]; exact too_W.mp hto
    refine lv_istore (lv' := [(6, .int (iI 3)), (5, .int (iI i)), (4, .ref od), (3, .ref ou), (2, .ref (b 0)), (1, .ref (a 0)), (0, .ref sb)]) hx hb d_La_law_702 hl (by decide) rfl (fun ls hl => ?_)
    refine lv_aload_n hx hb d_La_law_704 rfl (lv_at hl 4 rfl) ?_
    refine lv_aload_n hx hb d_La_law_705 rfl (lv_at hl 6 rfl) ?_
    refine lv_iload hx hb d_La_law_706 (lv_at hl 1 rfl) ?_
    refine lv_iconst (v := iI 1) hx hb d_La_law_708 rfl ?_
    refine x_iadd hx hb d_La_law_709 ?_
    refine x_sld hx hb hXs hbl hbA hS (by omega) (by omega) d_La_law_710 ?_
    have hsc710 := sc_r xs (i + 1)
    refine lv_aload_n hx hb d_La_law_711 rfl (lv_at hl 6 rfl) ?_
    refine lv_iload hx hb d_La_law_712 (lv_at hl 1 rfl) ?_
    refine lv_iconst (v := iI 2) hx hb d_La_law_714 rfl ?_
    refine x_iadd hx hb d_La_law_715 ?_
    refine x_sld hx hb hXs hbl hbA hS (by omega) (by omega) d_La_law_716 ?_
    have hsc716 := sc_r xs (i + 2)
    refine x_callVG S (c_Mo_certify l D aC b M hM er p2 f f1 f2 f3 f4 f5 z (sc xs (i + 2)) (by omega) (sc xs (i + 1)) hok.1 (hR.okA.mp hok.2)) t_La_92 ⟨rfl, rfl, by decide, by decide⟩ hK hN hP hD hS [52, 53, 54, 55, 56, 57, 58, 59] [60, 61, 62, 63, 64, 65, 66, 67, 68, 69, 70, 71, 72, 73, 74] rfl (by decide +kernel) (fun v9 w9 hw => by obtain ⟨m9, q9, rfl, hv1, hv2, h9, r1, r2, r3, r4, r5, p9, z9, rfl⟩ := hw; exact ⟨rfl, Nat.le_of_ble_eq_true rfl⟩) 6 6 rfl rfl rfl hl.1 rfl (Nat.le_of_ble_eq_true rfl) d_La_law_717 ⟨by show n1 + 2 ≤ 601024; omega, by show n2 + 12 ≤ 7293034; omega⟩ (fun v w1 ws1 H locs e9 hw hP hD hS => ?_)
    obtain ⟨m9, q9, rfl, hv1, hv2, h9, r1, r2, r3, r4, r5, p9, z9, rfl⟩ := hw
    have e9 : ws1 = [(ou, eJ aC 1 o1), (od, eD aC 1 o2), (a 44, .inr (3, [.ref (a 45), .int (iI px'), .int (iI pn')])), (a 45, eJ aC 6 pd'), (a 46, .inr (4, [.ref (a 47), .long (lI mt'), .int (iI ee')])), (a 47, eJ aC 112 f'), (a 48, .inr (4, [.ref (a 49), .long (lI mu), .int (iI eu)])), (a 49, eJ aC 112 g'), (a 0, .inr (5, [.ref (a 1), .ref (a 4), .ref (a 7), .ref (a 10), .ref (a 21), .ref (a 32), .ref (a 38), .ref (a 44), .ref (a 46), .ref (a 48)])), (a 1, .inr (0, [.ref (a 2), .ref (a 3)])), (a 2, eJ aC 1 d.om), (a 3, eI aC 1 d.oe), (a 4, .inr (0, [.ref (a 5), .ref (a 6)])), (a 5, eJ aC 1 d.nm), (a 6, eI aC 1 d.ne), (a 7, .inr (0, [.ref (a 8), .ref (a 9)])), (a 8, eJ aC 16 d.cm), (a 9, eI aC 16 d.ce), (a 10, .inr (1, [.ref (a 11), .ref (a 12), .ref (a 15), .ref (a 18), .int (iI d.rc)])), (a 11, eI aC 12 d.rl), (a 12, .inr (0, [.ref (a 13), .ref (a 14)])), (a 13, eJ aC 12 d.rlm), (a 14, eI aC 12 d.rle), (a 15, .inr (0, [.ref (a 16), .ref (a 17)])), (a 16, eJ aC 12 d.rhm), (a 17, eI aC 12 d.rhe), (a 18, .inr (0, [.ref (a 19), .ref (a 20)])), (a 19, eJ aC 12 d.rvm), (a 20, eI aC 12 d.rve), (a 21, .inr (1, [.ref (a 22), .ref (a 23), .ref (a 26), .ref (a 29), .int (iI d.cc)])), (a 22, eI aC 16 d.cl), (a 23, .inr (0, [.ref (a 24), .ref (a 25)])), (a 24, eJ aC 16 d.clm), (a 25, eI aC 16 d.cle), (a 26, .inr (0, [.ref (a 27), .ref (a 28)])), (a 27, eJ aC 16 d.chm), (a 28, eI aC 16 d.che), (a 29, .inr (0, [.ref (a 30), .ref (a 31)])), (a 30, eJ aC 16 d.cvm), (a 31, eI aC 16 d.cve), (a 32, .inr (2, [.ref (a 33), .ref (a 34), .ref (a 35), .int (iI d.ec)])), (a 33, eI aC 100 d.e1), (a 34, eI aC 100 d.e2), (a 35, .inr (0, [.ref (a 36), .ref (a 37)])), (a 36, eJ aC 100 d.em), (a 37, eI aC 100 d.ee), (a 38, .inr (2, [.ref (a 39), .ref (a 40), .ref (a 41), .int (iI d.pc)])), (a 39, eI aC 60 d.p1), (a 40, eI aC 60 d.p2), (a 41, .inr (0, [.ref (a 42), .ref (a 43)])), (a 42, eJ aC 60 d.pm), (a 43, eI aC 60 d.pe), (b 16, eI aC 440 h9), (b 18, eI aC 1200 r1), (b 19, eI aC 1200 r2), (b 20, eI aC 1200 r3), (b 21, eI aC 1200 r4), (b 22, eI aC 1200 r5), (b 0, .inr (6, [.int (iI (3 * tZ (mF M (sc xs (i + 1)) (sc xs (i + 2))))), .int (iI M.rw), .int (iI M.cn), .int (iI M.en), .int (iI M.pr), .double (dM M.ko (-3)), .ref (b 1), .ref (b 2), .ref (b 3), .ref (b 4), .ref (b 5), .ref (b 6), .ref (b 7), .ref (b 8), .ref (b 9), .ref (b 10), .ref (b 11), .ref (b 12), .ref (b 13), .ref (b 14), .ref (b 15), .int (iI p9), .ref (b 16), .ref (b 17), .ref (b 18), .ref (b 19), .ref (b 20), .ref (b 21), .ref (b 22)])), (b 17, eI aC 440 z9), (b 1, eD aC 192 (dA M.ka c3)), (b 2, eD aC 16 (dA M.kc c3)), (b 3, eD aC 256 (dA M.kq c3)), (b 4, eD aC 16 (dA M.kl c3)), (b 5, eD aC 16 (dA M.kh c3)), (b 6, eD aC 12 (dA M.krl c3)), (b 7, eD aC 12 (dA M.krh c3)), (b 8, eD aC 16 (dA M.kx M.xb)), (b 9, eD aC 12 (dA M.ky M.yb)), (b 10, eZ aC 192 M.ai), (b 11, eZ aC 256 M.qi), (b 12, eZ aC 16 M.li), (b 13, eZ aC 16 M.hi), (b 14, eZ aC 12 M.rli), (b 15, eZ aC 12 M.rhi)] := e9
    subst e9
    change W p l e room_1 s m #[Value.ref sb] below meth c H locs (n1 + 2) (n2 + 12) Q (F0 m 720 ls [.double (dM m9 q9)])
    refine lv_dstore (lv' := [(7, .double (dM m9 q9)), (6, .int (iI 3)), (5, .int (iI i)), (4, .ref od), (3, .ref ou), (2, .ref (b 0)), (1, .ref (a 0)), (0, .ref sb)]) hx hb d_La_law_720 hl (by decide) rfl (fun ls hl => ?_)
    refine lv_aload_n hx hb d_La_law_722 rfl (lv_at hl 5 rfl) ?_
    refine y_callV1 (V := .int (iI (3 * tZ (mF M (sc xs (i + 1)) (sc xs (i + 2)))))) S (c_Mo_thrown l D aC b M (3 * tZ (mF M (sc xs (i + 1)) (sc xs (i + 2)))) p9) t_La_63 (rm_9 (by decide) (by decide)) hK hN hP [58] rfl 0 6 rfl rfl rfl hl.1 rfl (Nat.le_of_ble_eq_true rfl) d_La_law_723 ⟨by show n1 + 2 ≤ 601024; omega, by show n2 + 12 ≤ 7293034; omega⟩ ?_
    refine lv_iload hx hb d_La_law_726 (lv_at hl 1 rfl) ?_
    refine x_icmp_eq (tgt := 733) hx hb d_La_law_728 (by decide) (by omega) (by omega) (fun c_728 => ?_) (fun c_728 => (by exfalso; omega))
    refine lv_iload hx hb d_La_law_733 (lv_at hl 1 rfl) ?_
    refine x_if_ne (tgt := 770) hx hb d_La_law_735 (by decide) (by decide) (fun c_735 => ?_) (fun c_735 => (by exfalso; omega))
    refine lv_goto (tgt := 841) hx hb d_La_law_770 (by decide) ?_
    refine W.widen (k := n1 + 2) (n := n2 + 12) (by omega) (by omega) ?_
    exact kk d M pd' px' pn' f' mt' ee' g' mu eu (3 * tZ (mF M (sc xs (i + 1)) (sc xs (i + 2)))) p9 h9 r1 r2 r3 r4 r5 z9 o1 o2 _ _ _ (hd) (hM) (hR) hP hD hS (lv_sub hl [2, 3, 4, 5, 6, 7] rfl)
set_option maxHeartbeats 8000000 in
set_option maxRecDepth 100000 in
theorem law_8 {p : Program} {l : Launch} {e : Env} {s : State} {m : MethodId} {below : List Frame} {meth : Method} {c : Code} {D : va_G} {aC : Nat → ClassId} {sa : Nat → Nat} {a b : Nat → Nat} {ou od sb L : Nat} {xs : Nat → Int32} {Q : State → Prop} (C0 : LC p l s m meth c D aC sa sb L xs) {i : Int} {n1 n2 : Nat} (hi : 0 ≤ i ∧ i + 5 ≤ (L : Int)) (hn1 : n1 + 2 ≤ 601024) (hn2 : n2 + 12 ≤ 7293034) (kk : LK p l e s m below meth c D aC a b ou od sb Q i 841 (n1 + 2) (n2 + 12)) : LK p l e s m below meth c D aC a b ou od sb Q i 773 n1 n2 := by
  intro d M pd px pn fd mt ee gd mu eu er p2 f f1 f2 f3 f4 f5 z o1 o2 H locs ls hd hM hR hP hD hS hl
  obtain ⟨S, hXs, hbl, hL9, hst, hK, hN, hX, hNC⟩ := C0
  obtain ⟨hx, hb, hml, hown, hts⟩ := id S
  have hbA : ¬ (fun q : Nat => s.heap.size ≤ q) sb := Nat.not_le.mpr hbl
  have hn := hR.n
  have hrw := hM.rw
  have hcn := hM.cn
  have hen := hM.en
  have hpr := hM.pr
  refine lv_aload_n hx hb d_La_law_773 rfl (lv_at hl 4 rfl) ?_
  refine lv_aload_n hx hb d_La_law_774 rfl (lv_at hl 5 rfl) ?_
  refine lv_iload hx hb d_La_law_775 (lv_at hl 0 rfl) ?_
  refine lv_iconst (v := iI 1) hx hb d_La_law_777 rfl ?_
  refine x_iadd hx hb d_La_law_778 ?_
  refine x_sld hx hb hXs hbl hbA hS (by omega) (by omega) d_La_law_779 ?_
  have hsc779 := sc_r xs (i + 1)
  refine lv_aload_n hx hb d_La_law_780 rfl (lv_at hl 5 rfl) ?_
  refine lv_iload hx hb d_La_law_781 (lv_at hl 0 rfl) ?_
  refine lv_iconst (v := iI 2) hx hb d_La_law_783 rfl ?_
  refine x_iadd hx hb d_La_law_784 ?_
  refine x_sld hx hb hXs hbl hbA hS (by omega) (by omega) d_La_law_785 ?_
  have hsc785 := sc_r xs (i + 2)
  refine lv_aload_n hx hb d_La_law_786 rfl (lv_at hl 2 rfl) ?_
  refine x_callW S (c_La_sign l D aC sa hst a d hd pd px pn fd mt ee gd mu eu (sc xs (i + 1)) (sc xs (i + 2)) (by omega) (by omega) ou o1) tl_93 ⟨rfl, rfl, by decide, by decide⟩ hK hN hX hNC hP hD hS [0, 2, 3, 4, 5, 6, 7] [8, 9, 10, 11, 12, 13, 14, 15, 16, 17, 18, 19, 20, 21, 22, 23, 24, 25, 26, 27, 28, 29, 30, 31, 32, 33, 34, 35, 36, 37, 38, 39, 40, 41, 42, 43, 44, 45, 46, 47, 48, 49, 50, 51] rfl (by decide +kernel) (fun v9 w9 hw => by rcases hw with ⟨rfl, hok, f', g', pd', px', pn', mt', ee', rfl⟩ | ⟨rfl, hok, rfl⟩ | ⟨rfl, hok, rfl⟩ <;> exact ⟨rfl, Nat.le_of_ble_eq_true rfl⟩) rfl hl.1 rfl (Nat.le_of_ble_eq_true rfl) d_La_law_787 ⟨by show n1 + 1 ≤ 601024; omega, by show n2 + 6 ≤ 7293034; omega⟩ (fun v w1 ws1 H locs e9 hw hP hD hS => ?_)
  rcases hw with ⟨rfl, hok, f', g', pd', px', pn', mt', ee', rfl⟩ | ⟨rfl, hok, rfl⟩ | ⟨rfl, hok, rfl⟩
  · have e9 : ws1 = [(ou, eJ aC 1 (updI o1 0 (sgI (figV d (sc xs (i + 1)) (sc xs (i + 2)))))), (od, eD aC 1 o2), (a 44, .inr (3, [.ref (a 45), .int (iI px'), .int (iI pn')])), (a 45, eJ aC 6 pd'), (a 46, .inr (4, [.ref (a 47), .long (lI mt'), .int (iI ee')])), (a 47, eJ aC 112 f'), (a 48, .inr (4, [.ref (a 49), .long (lI mu), .int (iI eu)])), (a 49, eJ aC 112 g'), (a 0, .inr (5, [.ref (a 1), .ref (a 4), .ref (a 7), .ref (a 10), .ref (a 21), .ref (a 32), .ref (a 38), .ref (a 44), .ref (a 46), .ref (a 48)])), (a 1, .inr (0, [.ref (a 2), .ref (a 3)])), (a 2, eJ aC 1 d.om), (a 3, eI aC 1 d.oe), (a 4, .inr (0, [.ref (a 5), .ref (a 6)])), (a 5, eJ aC 1 d.nm), (a 6, eI aC 1 d.ne), (a 7, .inr (0, [.ref (a 8), .ref (a 9)])), (a 8, eJ aC 16 d.cm), (a 9, eI aC 16 d.ce), (a 10, .inr (1, [.ref (a 11), .ref (a 12), .ref (a 15), .ref (a 18), .int (iI d.rc)])), (a 11, eI aC 12 d.rl), (a 12, .inr (0, [.ref (a 13), .ref (a 14)])), (a 13, eJ aC 12 d.rlm), (a 14, eI aC 12 d.rle), (a 15, .inr (0, [.ref (a 16), .ref (a 17)])), (a 16, eJ aC 12 d.rhm), (a 17, eI aC 12 d.rhe), (a 18, .inr (0, [.ref (a 19), .ref (a 20)])), (a 19, eJ aC 12 d.rvm), (a 20, eI aC 12 d.rve), (a 21, .inr (1, [.ref (a 22), .ref (a 23), .ref (a 26), .ref (a 29), .int (iI d.cc)])), (a 22, eI aC 16 d.cl), (a 23, .inr (0, [.ref (a 24), .ref (a 25)])), (a 24, eJ aC 16 d.clm), (a 25, eI aC 16 d.cle), (a 26, .inr (0, [.ref (a 27), .ref (a 28)])), (a 27, eJ aC 16 d.chm), (a 28, eI aC 16 d.che), (a 29, .inr (0, [.ref (a 30), .ref (a 31)])), (a 30, eJ aC 16 d.cvm), (a 31, eI aC 16 d.cve), (a 32, .inr (2, [.ref (a 33), .ref (a 34), .ref (a 35), .int (iI d.ec)])), (a 33, eI aC 100 d.e1), (a 34, eI aC 100 d.e2), (a 35, .inr (0, [.ref (a 36), .ref (a 37)])), (a 36, eJ aC 100 d.em), (a 37, eI aC 100 d.ee), (a 38, .inr (2, [.ref (a 39), .ref (a 40), .ref (a 41), .int (iI d.pc)])), (a 39, eI aC 60 d.p1), (a 40, eI aC 60 d.p2), (a 41, .inr (0, [.ref (a 42), .ref (a 43)])), (a 42, eJ aC 60 d.pm), (a 43, eI aC 60 d.pe), (b 16, eI aC 440 f), (b 18, eI aC 1200 f1), (b 19, eI aC 1200 f2), (b 20, eI aC 1200 f3), (b 21, eI aC 1200 f4), (b 22, eI aC 1200 f5), (b 0, .inr (6, [.int (iI er), .int (iI M.rw), .int (iI M.cn), .int (iI M.en), .int (iI M.pr), .double (dM M.ko (-3)), .ref (b 1), .ref (b 2), .ref (b 3), .ref (b 4), .ref (b 5), .ref (b 6), .ref (b 7), .ref (b 8), .ref (b 9), .ref (b 10), .ref (b 11), .ref (b 12), .ref (b 13), .ref (b 14), .ref (b 15), .int (iI p2), .ref (b 16), .ref (b 17), .ref (b 18), .ref (b 19), .ref (b 20), .ref (b 21), .ref (b 22)])), (b 17, eI aC 440 z), (b 1, eD aC 192 (dA M.ka c3)), (b 2, eD aC 16 (dA M.kc c3)), (b 3, eD aC 256 (dA M.kq c3)), (b 4, eD aC 16 (dA M.kl c3)), (b 5, eD aC 16 (dA M.kh c3)), (b 6, eD aC 12 (dA M.krl c3)), (b 7, eD aC 12 (dA M.krh c3)), (b 8, eD aC 16 (dA M.kx M.xb)), (b 9, eD aC 12 (dA M.ky M.yb)), (b 10, eZ aC 192 M.ai), (b 11, eZ aC 256 M.qi), (b 12, eZ aC 16 M.li), (b 13, eZ aC 16 M.hi), (b 14, eZ aC 12 M.rli), (b 15, eZ aC 12 M.rhi)] := e9
    subst e9
    change W p l e room_1 s m #[Value.ref sb] below meth c H locs (n1 + 1) (n2 + 6) Q (F0 m 790 ls [.int (iI 0)])
    have hfg := sgI_W (L_fig hd hM hR hok.1 hok.2)
    have hsr := sgI_q (figV d (sc xs (i + 1)) (sc xs (i + 2)))
    refine lv_istore (lv' := [(6, .int (iI 0)), (5, .int (iI i)), (4, .ref od), (3, .ref ou), (2, .ref (b 0)), (1, .ref (a 0)), (0, .ref sb)]) hx hb d_La_law_790 hl (by decide) rfl (fun ls hl => ?_)
    refine lv_aload_n hx hb d_La_law_792 rfl (lv_at hl 4 rfl) ?_
    refine lv_aload_n hx hb d_La_law_793 rfl (lv_at hl 6 rfl) ?_
    refine lv_iload hx hb d_La_law_794 (lv_at hl 1 rfl) ?_
    refine lv_iconst (v := iI 1) hx hb d_La_law_796 rfl ?_
    refine x_iadd hx hb d_La_law_797 ?_
    refine x_sld hx hb hXs hbl hbA hS (by omega) (by omega) d_La_law_798 ?_
    have hsc798 := sc_r xs (i + 1)
    refine lv_aload_n hx hb d_La_law_799 rfl (lv_at hl 6 rfl) ?_
    refine lv_iload hx hb d_La_law_800 (lv_at hl 1 rfl) ?_
    refine lv_iconst (v := iI 2) hx hb d_La_law_802 rfl ?_
    refine x_iadd hx hb d_La_law_803 ?_
    refine x_sld hx hb hXs hbl hbA hS (by omega) (by omega) d_La_law_804 ?_
    have hsc804 := sc_r xs (i + 2)
    refine x_callVG S (c_Mo_sign l D aC b M hM er p2 f f1 f2 f3 f4 f5 z (sc xs (i + 2)) (by omega) (sc xs (i + 1)) hok.1 (hR.okA.mp hok.2)) t_La_96 ⟨rfl, rfl, by decide, by decide⟩ hK hN hP hD hS [52, 53, 54, 55, 56, 57, 58, 59] [60, 61, 62, 63, 64, 65, 66, 67, 68, 69, 70, 71, 72, 73, 74] rfl (by decide +kernel) (fun v9 w9 hw => by obtain ⟨rfl, h9, r1, r2, r3, r4, r5, p9, z9, rfl⟩ := hw; exact ⟨rfl, Nat.le_of_ble_eq_true rfl⟩) 6 6 rfl rfl rfl hl.1 rfl (Nat.le_of_ble_eq_true rfl) d_La_law_805 ⟨by show n1 + 1 ≤ 601024; omega, by show n2 + 6 ≤ 7293034; omega⟩ (fun v w1 ws1 H locs e9 hw hP hD hS => ?_)
    obtain ⟨rfl, h9, r1, r2, r3, r4, r5, p9, z9, rfl⟩ := hw
    have e9 : ws1 = [(ou, eJ aC 1 (updI o1 0 (sgI (figV d (sc xs (i + 1)) (sc xs (i + 2)))))), (od, eD aC 1 o2), (a 44, .inr (3, [.ref (a 45), .int (iI px'), .int (iI pn')])), (a 45, eJ aC 6 pd'), (a 46, .inr (4, [.ref (a 47), .long (lI mt'), .int (iI ee')])), (a 47, eJ aC 112 f'), (a 48, .inr (4, [.ref (a 49), .long (lI mu), .int (iI eu)])), (a 49, eJ aC 112 g'), (a 0, .inr (5, [.ref (a 1), .ref (a 4), .ref (a 7), .ref (a 10), .ref (a 21), .ref (a 32), .ref (a 38), .ref (a 44), .ref (a 46), .ref (a 48)])), (a 1, .inr (0, [.ref (a 2), .ref (a 3)])), (a 2, eJ aC 1 d.om), (a 3, eI aC 1 d.oe), (a 4, .inr (0, [.ref (a 5), .ref (a 6)])), (a 5, eJ aC 1 d.nm), (a 6, eI aC 1 d.ne), (a 7, .inr (0, [.ref (a 8), .ref (a 9)])), (a 8, eJ aC 16 d.cm), (a 9, eI aC 16 d.ce), (a 10, .inr (1, [.ref (a 11), .ref (a 12), .ref (a 15), .ref (a 18), .int (iI d.rc)])), (a 11, eI aC 12 d.rl), (a 12, .inr (0, [.ref (a 13), .ref (a 14)])), (a 13, eJ aC 12 d.rlm), (a 14, eI aC 12 d.rle), (a 15, .inr (0, [.ref (a 16), .ref (a 17)])), (a 16, eJ aC 12 d.rhm), (a 17, eI aC 12 d.rhe), (a 18, .inr (0, [.ref (a 19), .ref (a 20)])), (a 19, eJ aC 12 d.rvm), (a 20, eI aC 12 d.rve), (a 21, .inr (1, [.ref (a 22), .ref (a 23), .ref (a 26), .ref (a 29), .int (iI d.cc)])), (a 22, eI aC 16 d.cl), (a 23, .inr (0, [.ref (a 24), .ref (a 25)])), (a 24, eJ aC 16 d.clm), (a 25, eI aC 16 d.cle), (a 26, .inr (0, [.ref (a 27), .ref (a 28)])), (a 27, eJ aC 16 d.chm), (a 28, eI aC 16 d.che), (a 29, .inr (0, [.ref (a 30), .ref (a 31)])), (a 30, eJ aC 16 d.cvm), (a 31, eI aC 16 d.cve), (a 32, .inr (2, [.ref (a 33), .ref (a 34), .ref (a 35), .int (iI d.ec)])), (a 33, eI aC 100 d.e1), (a 34, eI aC 100 d.e2), (a 35, .inr (0, [.ref (a 36), .ref (a 37)])), (a 36, eJ aC 100 d.em), (a 37, eI aC 100 d.ee), (a 38, .inr (2, [.ref (a 39), .ref (a 40), .ref (a 41), .int (iI d.pc)])), (a 39, eI aC 60 d.p1), (a 40, eI aC 60 d.p2), (a 41, .inr (0, [.ref (a 42), .ref (a 43)])), (a 42, eJ aC 60 d.pm), (a 43, eI aC 60 d.pe), (b 16, eI aC 440 h9), (b 18, eI aC 1200 r1), (b 19, eI aC 1200 r2), (b 20, eI aC 1200 r3), (b 21, eI aC 1200 r4), (b 22, eI aC 1200 r5), (b 0, .inr (6, [.int (iI 0), .int (iI M.rw), .int (iI M.cn), .int (iI M.en), .int (iI M.pr), .double (dM M.ko (-3)), .ref (b 1), .ref (b 2), .ref (b 3), .ref (b 4), .ref (b 5), .ref (b 6), .ref (b 7), .ref (b 8), .ref (b 9), .ref (b 10), .ref (b 11), .ref (b 12), .ref (b 13), .ref (b 14), .ref (b 15), .int (iI p9), .ref (b 16), .ref (b 17), .ref (b 18), .ref (b 19), .ref (b 20), .ref (b 21), .ref (b 22)])), (b 17, eI aC 440 z9), (b 1, eD aC 192 (dA M.ka c3)), (b 2, eD aC 16 (dA M.kc c3)), (b 3, eD aC 256 (dA M.kq c3)), (b 4, eD aC 16 (dA M.kl c3)), (b 5, eD aC 16 (dA M.kh c3)), (b 6, eD aC 12 (dA M.krl c3)), (b 7, eD aC 12 (dA M.krh c3)), (b 8, eD aC 16 (dA M.kx M.xb)), (b 9, eD aC 12 (dA M.ky M.yb)), (b 10, eZ aC 192 M.ai), (b 11, eZ aC 256 M.qi), (b 12, eZ aC 16 M.li), (b 13, eZ aC 16 M.hi), (b 14, eZ aC 12 M.rli), (b 15, eZ aC 12 M.rhi)] := e9
    subst e9
    change W p l e room_1 s m #[Value.ref sb] below meth c H locs (n1 + 1) (n2 + 6) Q (F0 m 808 ls [.int (iI (sgI (mF M (sc xs (i + 1)) (sc xs (i + 2)))))])
    refine lv_istore (lv' := [(7, .int (iI (sgI (mF M (sc xs (i + 1)) (sc xs (i + 2)))))), (6, .int (iI 0)), (5, .int (iI i)), (4, .ref od), (3, .ref ou), (2, .ref (b 0)), (1, .ref (a 0)), (0, .ref sb)]) hx hb d_La_law_808 hl (by decide) rfl (fun ls hl => ?_)
    refine lv_aload_n hx hb d_La_law_810 rfl (lv_at hl 5 rfl) ?_
    refine y_callV1 (V := .int (iI 0)) S (c_Mo_thrown l D aC b M 0 p9) t_La_63 (rm_9 (by decide) (by decide)) hK hN hP [58] rfl 0 6 rfl rfl rfl hl.1 rfl (Nat.le_of_ble_eq_true rfl) d_La_law_811 ⟨by show n1 + 1 ≤ 601024; omega, by show n2 + 6 ≤ 7293034; omega⟩ ?_
    refine lv_iload hx hb d_La_law_814 (lv_at hl 1 rfl) ?_
    refine x_icmp_eq (tgt := 821) hx hb d_La_law_816 (by decide) (by omega) (by omega) (fun c_816 => ?_) (fun c_816 => (by exfalso; omega))
    refine lv_iload hx hb d_La_law_821 (lv_at hl 1 rfl) ?_
    refine x_if_ne (tgt := 838) hx hb d_La_law_823 (by decide) (by decide) (fun c_823 => (by exfalso; omega)) (fun c_823 => ?_)
    refine lv_aload_n hx hb d_La_law_826 rfl (lv_at hl 4 rfl) ?_
    refine lv_iconst (v := iI 0) hx hb d_La_law_827 rfl ?_
    refine x_lald hx hb hK hP 0 rfl (by omega) (by decide) d_La_law_828 ?_
    refine x_topl ((updI o1 0 (sgI (figV d (sc xs (i + 1)) (sc xs (i + 2))))) 0) (sgI (figV d (sc xs (i + 1)) (sc xs (i + 2)))) (updI_s _ _ _) ?_
    refine lv_iload hx hb d_La_law_829 (lv_at hl 0 rfl) ?_
    refine x_i2l hx hb d_La_law_831 (by omega) ?_
    refine x_lcmp_eq (tgt := 838) hx hb d_La_law_832 d_La_law_833 (by decide) (by omega) (by omega) (fun c_832 => ?_) (fun c_832 => (by exfalso; omega))
    refine lv_goto (tgt := 841) hx hb d_La_law_838 (by decide) ?_
    refine W.widen (k := n1 + 2) (n := n2 + 12) (by omega) (by omega) ?_
    exact kk d M pd' px' pn' f' mt' ee' g' mu eu 0 p9 h9 r1 r2 r3 r4 r5 z9 (updI o1 0 (sgI (figV d (sc xs (i + 1)) (sc xs (i + 2))))) o2 _ _ _ (hd) (hM) (hR) hP hD hS (lv_sub hl [2, 3, 4, 5, 6, 7] rfl)
  · have e9 : ws1 = [(ou, eJ aC 1 o1), (od, eD aC 1 o2), (a 44, .inr (3, [.ref (a 45), .int (iI px), .int (iI pn)])), (a 45, eJ aC 6 pd), (a 46, .inr (4, [.ref (a 47), .long (lI mt), .int (iI ee)])), (a 47, eJ aC 112 fd), (a 48, .inr (4, [.ref (a 49), .long (lI mu), .int (iI eu)])), (a 49, eJ aC 112 gd), (a 0, .inr (5, [.ref (a 1), .ref (a 4), .ref (a 7), .ref (a 10), .ref (a 21), .ref (a 32), .ref (a 38), .ref (a 44), .ref (a 46), .ref (a 48)])), (a 1, .inr (0, [.ref (a 2), .ref (a 3)])), (a 2, eJ aC 1 d.om), (a 3, eI aC 1 d.oe), (a 4, .inr (0, [.ref (a 5), .ref (a 6)])), (a 5, eJ aC 1 d.nm), (a 6, eI aC 1 d.ne), (a 7, .inr (0, [.ref (a 8), .ref (a 9)])), (a 8, eJ aC 16 d.cm), (a 9, eI aC 16 d.ce), (a 10, .inr (1, [.ref (a 11), .ref (a 12), .ref (a 15), .ref (a 18), .int (iI d.rc)])), (a 11, eI aC 12 d.rl), (a 12, .inr (0, [.ref (a 13), .ref (a 14)])), (a 13, eJ aC 12 d.rlm), (a 14, eI aC 12 d.rle), (a 15, .inr (0, [.ref (a 16), .ref (a 17)])), (a 16, eJ aC 12 d.rhm), (a 17, eI aC 12 d.rhe), (a 18, .inr (0, [.ref (a 19), .ref (a 20)])), (a 19, eJ aC 12 d.rvm), (a 20, eI aC 12 d.rve), (a 21, .inr (1, [.ref (a 22), .ref (a 23), .ref (a 26), .ref (a 29), .int (iI d.cc)])), (a 22, eI aC 16 d.cl), (a 23, .inr (0, [.ref (a 24), .ref (a 25)])), (a 24, eJ aC 16 d.clm), (a 25, eI aC 16 d.cle), (a 26, .inr (0, [.ref (a 27), .ref (a 28)])), (a 27, eJ aC 16 d.chm), (a 28, eI aC 16 d.che), (a 29, .inr (0, [.ref (a 30), .ref (a 31)])), (a 30, eJ aC 16 d.cvm), (a 31, eI aC 16 d.cve), (a 32, .inr (2, [.ref (a 33), .ref (a 34), .ref (a 35), .int (iI d.ec)])), (a 33, eI aC 100 d.e1), (a 34, eI aC 100 d.e2), (a 35, .inr (0, [.ref (a 36), .ref (a 37)])), (a 36, eJ aC 100 d.em), (a 37, eI aC 100 d.ee), (a 38, .inr (2, [.ref (a 39), .ref (a 40), .ref (a 41), .int (iI d.pc)])), (a 39, eI aC 60 d.p1), (a 40, eI aC 60 d.p2), (a 41, .inr (0, [.ref (a 42), .ref (a 43)])), (a 42, eJ aC 60 d.pm), (a 43, eI aC 60 d.pe), (b 16, eI aC 440 f), (b 18, eI aC 1200 f1), (b 19, eI aC 1200 f2), (b 20, eI aC 1200 f3), (b 21, eI aC 1200 f4), (b 22, eI aC 1200 f5), (b 0, .inr (6, [.int (iI er), .int (iI M.rw), .int (iI M.cn), .int (iI M.en), .int (iI M.pr), .double (dM M.ko (-3)), .ref (b 1), .ref (b 2), .ref (b 3), .ref (b 4), .ref (b 5), .ref (b 6), .ref (b 7), .ref (b 8), .ref (b 9), .ref (b 10), .ref (b 11), .ref (b 12), .ref (b 13), .ref (b 14), .ref (b 15), .int (iI p2), .ref (b 16), .ref (b 17), .ref (b 18), .ref (b 19), .ref (b 20), .ref (b 21), .ref (b 22)])), (b 17, eI aC 440 z), (b 1, eD aC 192 (dA M.ka c3)), (b 2, eD aC 16 (dA M.kc c3)), (b 3, eD aC 256 (dA M.kq c3)), (b 4, eD aC 16 (dA M.kl c3)), (b 5, eD aC 16 (dA M.kh c3)), (b 6, eD aC 12 (dA M.krl c3)), (b 7, eD aC 12 (dA M.krh c3)), (b 8, eD aC 16 (dA M.kx M.xb)), (b 9, eD aC 12 (dA M.ky M.yb)), (b 10, eZ aC 192 M.ai), (b 11, eZ aC 256 M.qi), (b 12, eZ aC 16 M.li), (b 13, eZ aC 16 M.hi), (b 14, eZ aC 12 M.rli), (b 15, eZ aC 12 M.rhi)] := e9
    subst e9
    change W p l e room_1 s m #[Value.ref sb] below meth c H locs (n1 + 1) (n2 + 6) Q (F0 m 790 ls [.int (iI 1)])
    skip
    refine lv_istore (lv' := [(6, .int (iI 1)), (5, .int (iI i)), (4, .ref od), (3, .ref ou), (2, .ref (b 0)), (1, .ref (a 0)), (0, .ref sb)]) hx hb d_La_law_790 hl (by decide) rfl (fun ls hl => ?_)
    refine lv_aload_n hx hb d_La_law_792 rfl (lv_at hl 4 rfl) ?_
    refine lv_aload_n hx hb d_La_law_793 rfl (lv_at hl 6 rfl) ?_
    refine lv_iload hx hb d_La_law_794 (lv_at hl 1 rfl) ?_
    refine lv_iconst (v := iI 1) hx hb d_La_law_796 rfl ?_
    refine x_iadd hx hb d_La_law_797 ?_
    refine x_sld hx hb hXs hbl hbA hS (by omega) (by omega) d_La_law_798 ?_
    have hsc798 := sc_r xs (i + 1)
    refine lv_aload_n hx hb d_La_law_799 rfl (lv_at hl 6 rfl) ?_
    refine lv_iload hx hb d_La_law_800 (lv_at hl 1 rfl) ?_
    refine lv_iconst (v := iI 2) hx hb d_La_law_802 rfl ?_
    refine x_iadd hx hb d_La_law_803 ?_
    refine x_sld hx hb hXs hbl hbA hS (by omega) (by omega) d_La_law_804 ?_
    have hsc804 := sc_r xs (i + 2)
    refine x_callVG S (c_Mo_sign_b1 l D aC b M hM er p2 (sc xs (i + 1)) (sc xs (i + 2)) (by omega) (by omega) hok) t_La_96 ⟨rfl, rfl, by decide, by decide⟩ hK hN hP hD hS [58] [] rfl (by decide +kernel) (fun v9 w9 hw => by obtain ⟨rfl, rfl⟩ := hw; exact ⟨rfl, Nat.le_of_ble_eq_true rfl⟩) 0 6 rfl rfl rfl hl.1 rfl (Nat.le_of_ble_eq_true rfl) d_La_law_805 ⟨by show n1 + 1 ≤ 601024; omega, by show n2 + 6 ≤ 7293034; omega⟩ (fun v w1 ws1 H locs e9 hw hP hD hS => ?_)
    obtain ⟨rfl, rfl⟩ := hw
    have e9 : ws1 = [(ou, eJ aC 1 o1), (od, eD aC 1 o2), (a 44, .inr (3, [.ref (a 45), .int (iI px), .int (iI pn)])), (a 45, eJ aC 6 pd), (a 46, .inr (4, [.ref (a 47), .long (lI mt), .int (iI ee)])), (a 47, eJ aC 112 fd), (a 48, .inr (4, [.ref (a 49), .long (lI mu), .int (iI eu)])), (a 49, eJ aC 112 gd), (a 0, .inr (5, [.ref (a 1), .ref (a 4), .ref (a 7), .ref (a 10), .ref (a 21), .ref (a 32), .ref (a 38), .ref (a 44), .ref (a 46), .ref (a 48)])), (a 1, .inr (0, [.ref (a 2), .ref (a 3)])), (a 2, eJ aC 1 d.om), (a 3, eI aC 1 d.oe), (a 4, .inr (0, [.ref (a 5), .ref (a 6)])), (a 5, eJ aC 1 d.nm), (a 6, eI aC 1 d.ne), (a 7, .inr (0, [.ref (a 8), .ref (a 9)])), (a 8, eJ aC 16 d.cm), (a 9, eI aC 16 d.ce), (a 10, .inr (1, [.ref (a 11), .ref (a 12), .ref (a 15), .ref (a 18), .int (iI d.rc)])), (a 11, eI aC 12 d.rl), (a 12, .inr (0, [.ref (a 13), .ref (a 14)])), (a 13, eJ aC 12 d.rlm), (a 14, eI aC 12 d.rle), (a 15, .inr (0, [.ref (a 16), .ref (a 17)])), (a 16, eJ aC 12 d.rhm), (a 17, eI aC 12 d.rhe), (a 18, .inr (0, [.ref (a 19), .ref (a 20)])), (a 19, eJ aC 12 d.rvm), (a 20, eI aC 12 d.rve), (a 21, .inr (1, [.ref (a 22), .ref (a 23), .ref (a 26), .ref (a 29), .int (iI d.cc)])), (a 22, eI aC 16 d.cl), (a 23, .inr (0, [.ref (a 24), .ref (a 25)])), (a 24, eJ aC 16 d.clm), (a 25, eI aC 16 d.cle), (a 26, .inr (0, [.ref (a 27), .ref (a 28)])), (a 27, eJ aC 16 d.chm), (a 28, eI aC 16 d.che), (a 29, .inr (0, [.ref (a 30), .ref (a 31)])), (a 30, eJ aC 16 d.cvm), (a 31, eI aC 16 d.cve), (a 32, .inr (2, [.ref (a 33), .ref (a 34), .ref (a 35), .int (iI d.ec)])), (a 33, eI aC 100 d.e1), (a 34, eI aC 100 d.e2), (a 35, .inr (0, [.ref (a 36), .ref (a 37)])), (a 36, eJ aC 100 d.em), (a 37, eI aC 100 d.ee), (a 38, .inr (2, [.ref (a 39), .ref (a 40), .ref (a 41), .int (iI d.pc)])), (a 39, eI aC 60 d.p1), (a 40, eI aC 60 d.p2), (a 41, .inr (0, [.ref (a 42), .ref (a 43)])), (a 42, eJ aC 60 d.pm), (a 43, eI aC 60 d.pe), (b 16, eI aC 440 f), (b 18, eI aC 1200 f1), (b 19, eI aC 1200 f2), (b 20, eI aC 1200 f3), (b 21, eI aC 1200 f4), (b 22, eI aC 1200 f5), (b 0, .inr (6, [.int (iI 1), .int (iI M.rw), .int (iI M.cn), .int (iI M.en), .int (iI M.pr), .double (dM M.ko (-3)), .ref (b 1), .ref (b 2), .ref (b 3), .ref (b 4), .ref (b 5), .ref (b 6), .ref (b 7), .ref (b 8), .ref (b 9), .ref (b 10), .ref (b 11), .ref (b 12), .ref (b 13), .ref (b 14), .ref (b 15), .int (iI p2), .ref (b 16), .ref (b 17), .ref (b 18), .ref (b 19), .ref (b 20), .ref (b 21), .ref (b 22)])), (b 17, eI aC 440 z), (b 1, eD aC 192 (dA M.ka c3)), (b 2, eD aC 16 (dA M.kc c3)), (b 3, eD aC 256 (dA M.kq c3)), (b 4, eD aC 16 (dA M.kl c3)), (b 5, eD aC 16 (dA M.kh c3)), (b 6, eD aC 12 (dA M.krl c3)), (b 7, eD aC 12 (dA M.krh c3)), (b 8, eD aC 16 (dA M.kx M.xb)), (b 9, eD aC 12 (dA M.ky M.yb)), (b 10, eZ aC 192 M.ai), (b 11, eZ aC 256 M.qi), (b 12, eZ aC 16 M.li), (b 13, eZ aC 16 M.hi), (b 14, eZ aC 12 M.rli), (b 15, eZ aC 12 M.rhi)] := e9
    subst e9
    change W p l e room_1 s m #[Value.ref sb] below meth c H locs (n1 + 1) (n2 + 6) Q (F0 m 808 ls [.int (iI 0)])
    refine lv_istore (lv' := [(7, .int (iI 0)), (6, .int (iI 1)), (5, .int (iI i)), (4, .ref od), (3, .ref ou), (2, .ref (b 0)), (1, .ref (a 0)), (0, .ref sb)]) hx hb d_La_law_808 hl (by decide) rfl (fun ls hl => ?_)
    refine lv_aload_n hx hb d_La_law_810 rfl (lv_at hl 5 rfl) ?_
    refine y_callV1 (V := .int (iI 1)) S (c_Mo_thrown l D aC b M 1 p2) t_La_63 (rm_9 (by decide) (by decide)) hK hN hP [58] rfl 0 6 rfl rfl rfl hl.1 rfl (Nat.le_of_ble_eq_true rfl) d_La_law_811 ⟨by show n1 + 1 ≤ 601024; omega, by show n2 + 6 ≤ 7293034; omega⟩ ?_
    refine lv_iload hx hb d_La_law_814 (lv_at hl 1 rfl) ?_
    refine x_icmp_eq (tgt := 821) hx hb d_La_law_816 (by decide) (by omega) (by omega) (fun c_816 => ?_) (fun c_816 => (by exfalso; omega))
    refine lv_iload hx hb d_La_law_821 (lv_at hl 1 rfl) ?_
    refine x_if_ne (tgt := 838) hx hb d_La_law_823 (by decide) (by decide) (fun c_823 => ?_) (fun c_823 => (by exfalso; omega))
    refine lv_goto (tgt := 841) hx hb d_La_law_838 (by decide) ?_
    refine W.widen (k := n1 + 2) (n := n2 + 12) (by omega) (by omega) ?_
    exact kk d M pd px pn fd mt ee gd mu eu 1 p2 f f1 f2 f3 f4 f5 z o1 o2 _ _ _ (hd) (hM) (hR) hP hD hS (lv_sub hl [2, 3, 4, 5, 6, 7] rfl)
  · have e9 : ws1 = [(ou, eJ aC 1 o1), (od, eD aC 1 o2), (a 44, .inr (3, [.ref (a 45), .int (iI px), .int (iI pn)])), (a 45, eJ aC 6 pd), (a 46, .inr (4, [.ref (a 47), .long (lI mt), .int (iI ee)])), (a 47, eJ aC 112 fd), (a 48, .inr (4, [.ref (a 49), .long (lI mu), .int (iI eu)])), (a 49, eJ aC 112 gd), (a 0, .inr (5, [.ref (a 1), .ref (a 4), .ref (a 7), .ref (a 10), .ref (a 21), .ref (a 32), .ref (a 38), .ref (a 44), .ref (a 46), .ref (a 48)])), (a 1, .inr (0, [.ref (a 2), .ref (a 3)])), (a 2, eJ aC 1 d.om), (a 3, eI aC 1 d.oe), (a 4, .inr (0, [.ref (a 5), .ref (a 6)])), (a 5, eJ aC 1 d.nm), (a 6, eI aC 1 d.ne), (a 7, .inr (0, [.ref (a 8), .ref (a 9)])), (a 8, eJ aC 16 d.cm), (a 9, eI aC 16 d.ce), (a 10, .inr (1, [.ref (a 11), .ref (a 12), .ref (a 15), .ref (a 18), .int (iI d.rc)])), (a 11, eI aC 12 d.rl), (a 12, .inr (0, [.ref (a 13), .ref (a 14)])), (a 13, eJ aC 12 d.rlm), (a 14, eI aC 12 d.rle), (a 15, .inr (0, [.ref (a 16), .ref (a 17)])), (a 16, eJ aC 12 d.rhm), (a 17, eI aC 12 d.rhe), (a 18, .inr (0, [.ref (a 19), .ref (a 20)])), (a 19, eJ aC 12 d.rvm), (a 20, eI aC 12 d.rve), (a 21, .inr (1, [.ref (a 22), .ref (a 23), .ref (a 26), .ref (a 29), .int (iI d.cc)])), (a 22, eI aC 16 d.cl), (a 23, .inr (0, [.ref (a 24), .ref (a 25)])), (a 24, eJ aC 16 d.clm), (a 25, eI aC 16 d.cle), (a 26, .inr (0, [.ref (a 27), .ref (a 28)])), (a 27, eJ aC 16 d.chm), (a 28, eI aC 16 d.che), (a 29, .inr (0, [.ref (a 30), .ref (a 31)])), (a 30, eJ aC 16 d.cvm), (a 31, eI aC 16 d.cve), (a 32, .inr (2, [.ref (a 33), .ref (a 34), .ref (a 35), .int (iI d.ec)])), (a 33, eI aC 100 d.e1), (a 34, eI aC 100 d.e2), (a 35, .inr (0, [.ref (a 36), .ref (a 37)])), (a 36, eJ aC 100 d.em), (a 37, eI aC 100 d.ee), (a 38, .inr (2, [.ref (a 39), .ref (a 40), .ref (a 41), .int (iI d.pc)])), (a 39, eI aC 60 d.p1), (a 40, eI aC 60 d.p2), (a 41, .inr (0, [.ref (a 42), .ref (a 43)])), (a 42, eJ aC 60 d.pm), (a 43, eI aC 60 d.pe), (b 16, eI aC 440 f), (b 18, eI aC 1200 f1), (b 19, eI aC 1200 f2), (b 20, eI aC 1200 f3), (b 21, eI aC 1200 f4), (b 22, eI aC 1200 f5), (b 0, .inr (6, [.int (iI er), .int (iI M.rw), .int (iI M.cn), .int (iI M.en), .int (iI M.pr), .double (dM M.ko (-3)), .ref (b 1), .ref (b 2), .ref (b 3), .ref (b 4), .ref (b 5), .ref (b 6), .ref (b 7), .ref (b 8), .ref (b 9), .ref (b 10), .ref (b 11), .ref (b 12), .ref (b 13), .ref (b 14), .ref (b 15), .int (iI p2), .ref (b 16), .ref (b 17), .ref (b 18), .ref (b 19), .ref (b 20), .ref (b 21), .ref (b 22)])), (b 17, eI aC 440 z), (b 1, eD aC 192 (dA M.ka c3)), (b 2, eD aC 16 (dA M.kc c3)), (b 3, eD aC 256 (dA M.kq c3)), (b 4, eD aC 16 (dA M.kl c3)), (b 5, eD aC 16 (dA M.kh c3)), (b 6, eD aC 12 (dA M.krl c3)), (b 7, eD aC 12 (dA M.krh c3)), (b 8, eD aC 16 (dA M.kx M.xb)), (b 9, eD aC 12 (dA M.ky M.yb)), (b 10, eZ aC 192 M.ai), (b 11, eZ aC 256 M.qi), (b 12, eZ aC 16 M.li), (b 13, eZ aC 16 M.hi), (b 14, eZ aC 12 M.rli), (b 15, eZ aC 12 M.rhi)] := e9
    subst e9
    change W p l e room_1 s m #[Value.ref sb] below meth c H locs (n1 + 1) (n2 + 6) Q (F0 m 790 ls [.int (iI 2)])
    skip
    refine lv_istore (lv' := [(6, .int (iI 2)), (5, .int (iI i)), (4, .ref od), (3, .ref ou), (2, .ref (b 0)), (1, .ref (a 0)), (0, .ref sb)]) hx hb d_La_law_790 hl (by decide) rfl (fun ls hl => ?_)
    refine lv_aload_n hx hb d_La_law_792 rfl (lv_at hl 4 rfl) ?_
    refine lv_aload_n hx hb d_La_law_793 rfl (lv_at hl 6 rfl) ?_
    refine lv_iload hx hb d_La_law_794 (lv_at hl 1 rfl) ?_
    refine lv_iconst (v := iI 1) hx hb d_La_law_796 rfl ?_
    refine x_iadd hx hb d_La_law_797 ?_
    refine x_sld hx hb hXs hbl hbA hS (by omega) (by omega) d_La_law_798 ?_
    have hsc798 := sc_r xs (i + 1)
    refine lv_aload_n hx hb d_La_law_799 rfl (lv_at hl 6 rfl) ?_
    refine lv_iload hx hb d_La_law_800 (lv_at hl 1 rfl) ?_
    refine lv_iconst (v := iI 2) hx hb d_La_law_802 rfl ?_
    refine x_iadd hx hb d_La_law_803 ?_
    refine x_sld hx hb hXs hbl hbA hS (by omega) (by omega) d_La_law_804 ?_
    have hsc804 := sc_r xs (i + 2)
    refine x_callVG S (c_Mo_sign_b2 l D aC b M hM er p2 (sc xs (i + 1)) (sc xs (i + 2)) (by omega) (by omega) hok.1 (fun z9 => hok.2 (hR.okA.mpr z9))) t_La_96 ⟨rfl, rfl, by decide, by decide⟩ hK hN hP hD hS [58] [] rfl (by decide +kernel) (fun v9 w9 hw => by obtain ⟨rfl, rfl⟩ := hw; exact ⟨rfl, Nat.le_of_ble_eq_true rfl⟩) 0 6 rfl rfl rfl hl.1 rfl (Nat.le_of_ble_eq_true rfl) d_La_law_805 ⟨by show n1 + 1 ≤ 601024; omega, by show n2 + 6 ≤ 7293034; omega⟩ (fun v w1 ws1 H locs e9 hw hP hD hS => ?_)
    obtain ⟨rfl, rfl⟩ := hw
    have e9 : ws1 = [(ou, eJ aC 1 o1), (od, eD aC 1 o2), (a 44, .inr (3, [.ref (a 45), .int (iI px), .int (iI pn)])), (a 45, eJ aC 6 pd), (a 46, .inr (4, [.ref (a 47), .long (lI mt), .int (iI ee)])), (a 47, eJ aC 112 fd), (a 48, .inr (4, [.ref (a 49), .long (lI mu), .int (iI eu)])), (a 49, eJ aC 112 gd), (a 0, .inr (5, [.ref (a 1), .ref (a 4), .ref (a 7), .ref (a 10), .ref (a 21), .ref (a 32), .ref (a 38), .ref (a 44), .ref (a 46), .ref (a 48)])), (a 1, .inr (0, [.ref (a 2), .ref (a 3)])), (a 2, eJ aC 1 d.om), (a 3, eI aC 1 d.oe), (a 4, .inr (0, [.ref (a 5), .ref (a 6)])), (a 5, eJ aC 1 d.nm), (a 6, eI aC 1 d.ne), (a 7, .inr (0, [.ref (a 8), .ref (a 9)])), (a 8, eJ aC 16 d.cm), (a 9, eI aC 16 d.ce), (a 10, .inr (1, [.ref (a 11), .ref (a 12), .ref (a 15), .ref (a 18), .int (iI d.rc)])), (a 11, eI aC 12 d.rl), (a 12, .inr (0, [.ref (a 13), .ref (a 14)])), (a 13, eJ aC 12 d.rlm), (a 14, eI aC 12 d.rle), (a 15, .inr (0, [.ref (a 16), .ref (a 17)])), (a 16, eJ aC 12 d.rhm), (a 17, eI aC 12 d.rhe), (a 18, .inr (0, [.ref (a 19), .ref (a 20)])), (a 19, eJ aC 12 d.rvm), (a 20, eI aC 12 d.rve), (a 21, .inr (1, [.ref (a 22), .ref (a 23), .ref (a 26), .ref (a 29), .int (iI d.cc)])), (a 22, eI aC 16 d.cl), (a 23, .inr (0, [.ref (a 24), .ref (a 25)])), (a 24, eJ aC 16 d.clm), (a 25, eI aC 16 d.cle), (a 26, .inr (0, [.ref (a 27), .ref (a 28)])), (a 27, eJ aC 16 d.chm), (a 28, eI aC 16 d.che), (a 29, .inr (0, [.ref (a 30), .ref (a 31)])), (a 30, eJ aC 16 d.cvm), (a 31, eI aC 16 d.cve), (a 32, .inr (2, [.ref (a 33), .ref (a 34), .ref (a 35), .int (iI d.ec)])), (a 33, eI aC 100 d.e1), (a 34, eI aC 100 d.e2), (a 35, .inr (0, [.ref (a 36), .ref (a 37)])), (a 36, eJ aC 100 d.em), (a 37, eI aC 100 d.ee), (a 38, .inr (2, [.ref (a 39), .ref (a 40), .ref (a 41), .int (iI d.pc)])), (a 39, eI aC 60 d.p1), (a 40, eI aC 60 d.p2), (a 41, .inr (0, [.ref (a 42), .ref (a 43)])), (a 42, eJ aC 60 d.pm), (a 43, eI aC 60 d.pe), (b 16, eI aC 440 f), (b 18, eI aC 1200 f1), (b 19, eI aC 1200 f2), (b 20, eI aC 1200 f3), (b 21, eI aC 1200 f4), (b 22, eI aC 1200 f5), (b 0, .inr (6, [.int (iI 2), .int (iI M.rw), .int (iI M.cn), .int (iI M.en), .int (iI M.pr), .double (dM M.ko (-3)), .ref (b 1), .ref (b 2), .ref (b 3), .ref (b 4), .ref (b 5), .ref (b 6), .ref (b 7), .ref (b 8), .ref (b 9), .ref (b 10), .ref (b 11), .ref (b 12), .ref (b 13), .ref (b 14), .ref (b 15), .int (iI p2), .ref (b 16), .ref (b 17), .ref (b 18), .ref (b 19), .ref (b 20), .ref (b 21), .ref (b 22)])), (b 17, eI aC 440 z), (b 1, eD aC 192 (dA M.ka c3)), (b 2, eD aC 16 (dA M.kc c3)), (b 3, eD aC 256 (dA M.kq c3)), (b 4, eD aC 16 (dA M.kl c3)), (b 5, eD aC 16 (dA M.kh c3)), (b 6, eD aC 12 (dA M.krl c3)), (b 7, eD aC 12 (dA M.krh c3)), (b 8, eD aC 16 (dA M.kx M.xb)), (b 9, eD aC 12 (dA M.ky M.yb)), (b 10, eZ aC 192 M.ai), (b 11, eZ aC 256 M.qi), (b 12, eZ aC 16 M.li), (b 13, eZ aC 16 M.hi), (b 14, eZ aC 12 M.rli), (b 15, eZ aC 12 M.rhi)] := e9
    subst e9
    change W p l e room_1 s m #[Value.ref sb] below meth c H locs (n1 + 1) (n2 + 6) Q (F0 m 808 ls [.int (iI 0)])
    refine lv_istore (lv' := [(7, .int (iI 0)), (6, .int (iI 2)), (5, .int (iI i)), (4, .ref od), (3, .ref ou), (2, .ref (b 0)), (1, .ref (a 0)), (0, .ref sb)]) hx hb d_La_law_808 hl (by decide) rfl (fun ls hl => ?_)
    refine lv_aload_n hx hb d_La_law_810 rfl (lv_at hl 5 rfl) ?_
    refine y_callV1 (V := .int (iI 2)) S (c_Mo_thrown l D aC b M 2 p2) t_La_63 (rm_9 (by decide) (by decide)) hK hN hP [58] rfl 0 6 rfl rfl rfl hl.1 rfl (Nat.le_of_ble_eq_true rfl) d_La_law_811 ⟨by show n1 + 1 ≤ 601024; omega, by show n2 + 6 ≤ 7293034; omega⟩ ?_
    refine lv_iload hx hb d_La_law_814 (lv_at hl 1 rfl) ?_
    refine x_icmp_eq (tgt := 821) hx hb d_La_law_816 (by decide) (by omega) (by omega) (fun c_816 => ?_) (fun c_816 => (by exfalso; omega))
    refine lv_iload hx hb d_La_law_821 (lv_at hl 1 rfl) ?_
    refine x_if_ne (tgt := 838) hx hb d_La_law_823 (by decide) (by decide) (fun c_823 => ?_) (fun c_823 => (by exfalso; omega))
    refine lv_goto (tgt := 841) hx hb d_La_law_838 (by decide) ?_
    refine W.widen (k := n1 + 2) (n := n2 + 12) (by omega) (by omega) ?_
    exact kk d M pd px pn fd mt ee gd mu eu 2 p2 f f1 f2 f3 f4 f5 z o1 o2 _ _ _ (hd) (hM) (hR) hP hD hS (lv_sub hl [2, 3, 4, 5, 6, 7] rfl)
