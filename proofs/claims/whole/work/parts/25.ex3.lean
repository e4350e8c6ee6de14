theorem cpy_J (aC : Nat → ClassId) (F G : Int → Int) : (.inl (aC 1, 112, .inr (.inl (va_cpy (fun k : Nat => lI (F (k : Int))) (fun k : Nat => lI (G (k : Int))) 0 0 112))) : va_E) = eJ aC 112 (fun j => if j < 112 then F j else G j) := by
  unfold eJ; congr 4; congr 1; funext k
  unfold va_cpy
  by_cases h : k < 112
  · rw [if_pos ⟨Nat.zero_le _, by omega⟩]
    show lI (F ((0 + (k - 0) : Nat) : Int)) = lI (if (k : Int) < 112 then F k else G k)
    rw [if_pos (by omega), show 0 + (k - 0) = k by omega]
  · rw [if_neg (fun q => h (by omega))]
    show lI (G (k : Int)) = lI (if (k : Int) < 112 then F k else G k)
    rw [if_neg (by omega)]
section XY
variable {p : Program} {l : Launch} {e : Env} {R : Room} {s : State} {m : MethodId} {args : Array Value} {below : List Frame} {meth : Method} {c : Code} {H : Heap} {locs : List Loc} {cells slots : Nat} {Q : State → Prop}
variable {cc : ByteArray} {pc : Nat} {ls : Array Slot} {rest : List Value} {D : va_G} {cl : List vw_C} {A : Nat → Prop} {a : Nat} {aC : Nat → ClassId} {ws : va_W} {H0 : Heap}
theorem x_copyJ {nL : Nat} {own : String} {index : Nat} (S : CallFix p m c cc nL s args TB own) (hls : ls.size = nL) (hlink : Cond.methodLink own index arraycopyName ∈ TB) (hnat : Cond.native arraycopyName ∈ TB) (hstat : Cond.static arraycopyName ∈ TB) (hini : Cond.initialized "java/lang/System" ∈ TB)
    (hK : va_K D cl (TY aC) s) (hP : va_P D cl ws H) (hD : va_D A ws) (hS : va_S A H0 H locs) (q0 q1 : Nat) {a0 : Nat} {F G : Int → Int} (ha0 : ws[q0]? = some (a0, eJ aC 112 F)) (ha1 : ws[q1]? = some (a, eJ aC 112 G))
    (hframes : 1 ≤ R.frames) (hlocals : (rest.map fun v => v.category).sum + 18 ≤ R.locals) (hdg : decode cc pc = .ok (.invokestatic index, 3))
    (kk : ∀ (H1 : Heap) (locs1 : List Loc), va_P D cl (ws.set q1 (a, eJ aC 112 (fun j => if j < 112 then F j else G j))) H1 → va_D A (ws.set q1 (a, eJ aC 112 (fun j => if j < 112 then F j else G j))) → va_S A H0 H1 locs1 → W p l e R s m args below meth c H1 locs1 cells slots Q (F0 m (pc + 3) ls rest)) : W p l e R s m args below meth c H locs cells slots Q (F0 m pc ls (.int (iI 112) :: .int (iI 0) :: .ref a :: .int (iI 0) :: .ref a0 :: rest)) := by
  obtain ⟨hx, hb, hml, hown, hts⟩ := S
  have e112 : (iI 112).toNatClampNeg = 112 := by decide +kernel
  have e0 : (iI 0).toNatClampNeg = 0 := by decide +kernel
  refine va_copyl hx hb (by rw [hml, hls]) hown (hts _ hlink) (hts _ hnat) (hts _ hstat) (hts _ hini) hK hP hD hS q0 q1 1 1 ha0 ha1 rfl rfl rfl (by decide +kernel) (by decide +kernel) (by decide +kernel) (by rw [e112, e0]; exact Nat.le_refl _) (by rw [e112, e0]; exact Nat.le_refl _) (fun _ _ => rfl) hframes hlocals hdg (fun H1 locs1 h1 h2 h3 => ?_)
  rw [e112, e0, cpy_J] at h1 h2
  exact kk H1 locs1 h1 h2 h3
end XY
theorem tp_r {V : Int} (h0 : 0 ≤ V) (h : V < bigV) : -1 ≤ tp V ∧ tp V < 3000 := by
  refine ⟨by unfold tp; split <;> omega, ?_⟩
  rcases (show V = 0 ∨ 0 < V by omega) with q | q
  · unfold tp; rw [if_pos q]; omega
  · obtain ⟨a, ha, h1, h2⟩ := tp_spec q
    rw [ha]
    rcases (show a < 3000 ∨ 3000 ≤ a by omega) with c | c
    · omega
    · have h3 := p2_le c
      have h4 : V < 2 ^ 3000 := h
      generalize (2 : Int) ^ 3000 = w at h3 h4
      omega
def sgI (V : Int) : Int := if V < 0 then -1 else if V = 0 then 0 else 1
theorem tp_neg {V : Int} (h : 0 ≤ V) : 0 ≤ tp V ↔ V ≠ 0 := by
  unfold tp; split
  · omega
  · omega
theorem tp_lt {V : Int} {k : Nat} (h0 : 0 ≤ V) (h : V < 2 ^ k) : tp V < k := by
  rcases (show V = 0 ∨ 0 < V by omega) with q | q
  · unfold tp; rw [if_pos q]; omega
  · obtain ⟨a, ha, h1, h2⟩ := tp_spec q
    rw [ha]
    rcases (show a < k ∨ k ≤ a by omega) with c | c
    · omega
    · have := p2_le c; omega
theorem tp_big {V : Int} (h0 : 0 ≤ V) (h : V < bigV) : tp V < 3000 := tp_lt h0 h
theorem neg_bd {f g : Int → Int} {n : Int} (hb : Bd n f) (h : ∀ j : Int, 0 ≤ j → j < 112 → g j = -f j) : Bd n g := fun j h1 h2 => by rw [h j h1 h2]; have := hb j h1 h2; omega
theorem cpy_nr {F G : Int → Int} {V n : Int} (h : Nr F V) (hb : Bd n F) : Nr (fun j => if j < 112 then F j else G j) V ∧ Bd n (fun j => if j < 112 then F j else G j) := by
  refine ⟨⟨fun j h1 h2 => ?_, ?_⟩, fun j h1 h2 => ?_⟩
  · show 0 ≤ (if j < 112 then F j else G j) ∧ (if j < 112 then F j else G j) < _
    rw [if_pos (by omega)]; exact h.1 j h1 h2
  · rw [← h.2]; exact dg_congr 112 (fun j h1 h2 => if_pos (by omega))
  · show _ ≤ (if j < 112 then F j else G j) ∧ (if j < 112 then F j else G j) ≤ _
    rw [if_pos h2]; exact hb j h1 h2
/-- the number rounded up: where its last bit stands, its mantissa -/
def ruL (V : Int) : Int := max (tp (V.natAbs : Int) - 53 + 1) 465
def ruM (V : Int) : Int := if V < 0 then -((V.natAbs : Int) / 2 ^ (ruL V).toNat) else V / 2 ^ (ruL V).toNat + zP (V % 2 ^ (ruL V).toNat ≠ 0)
theorem ruL_r {V : Int} (h : -bigV < V ∧ V < bigV) : 465 ≤ ruL V ∧ ruL V < 2971 := by
  have := tp_big (V := (V.natAbs : Int)) (by omega) (by omega)
  unfold ruL; omega
theorem ruL_top {V : Int} : (V.natAbs : Int) / 2 ^ (ruL V).toNat % 2 ^ 53 = (V.natAbs : Int) / 2 ^ (ruL V).toNat ∧ 0 ≤ (V.natAbs : Int) / 2 ^ (ruL V).toNat ∧ (V.natAbs : Int) / 2 ^ (ruL V).toNat < 9007199254740992 := by
  have hp := p2_pos (ruL V).toNat
  have h1 : 0 ≤ (V.natAbs : Int) / 2 ^ (ruL V).toNat := Int.ediv_nonneg (by omega) (Int.le_of_lt hp)
  have h2 : (V.natAbs : Int) / 2 ^ (ruL V).toNat < 9007199254740992 := by
    apply Int.ediv_lt_of_lt_mul hp
    have e : (9007199254740992 : Int) = 2 ^ 53 := rfl
    rw [e, ← p2_add]
    rcases (show (V.natAbs : Int) = 0 ∨ 0 < (V.natAbs : Int) by omega) with q | q
    · rw [q]; exact p2_pos _
    · obtain ⟨k, hk, a1, a2⟩ := tp_spec q
      have := p2_le (show k + 1 ≤ 53 + (ruL V).toNat by unfold ruL; omega)
      omega
  have e53 : (2 : Int) ^ 53 = 9007199254740992 := rfl
  exact ⟨by rw [e53]; exact Int.emod_eq_of_lt h1 h2, h1, h2⟩

set_option maxHeartbeats 4000000 in
set_option maxRecDepth 100000 in
theorem c_Ex_signum (l : Launch) (D : va_G) (aC : Nat → ClassId) (a ad : Nat) (f : Int → Int) (mt ee : Int) (n : Int) (hn : 0 ≤ n ∧ n ≤ 1000000) (hbd : Bd n f) (hV : -bigV < dg 27 f 112 ∧ dg 27 f 112 < bigV) : CT l D aC y_Ex_signum (rd 3 64) [.ref a] [(a, .inr (4, [.ref ad, .long (lI mt), .int (iI ee)])), (ad, eJ aC 112 f)] (fun v w => v = some (.int (iI (sgI (dg 27 f 112)))) ∧ ∃ g : Int → Int, w = [(a, .inr (4, [.ref ad, .long (lI mt), .int (iI ee)])), (ad, eJ aC 112 g)] ∧ Nr g (dg 27 f 112) ∧ Bd (n + 1) g) := by
  refine CT.of (cc := b_Ex_signum) (maxL := 1) (ret := (some .int)) (by decide +kernel) k_Ex_signum (Nat.le_of_ble_eq_true rfl) ?_
  intro p e s m below meth c Q S hr hlocks hQ hK hN hP hD hS ls hl
  obtain ⟨hx, hb, hml, hown, hts⟩ := id S
  have hl : lv_has ls 1 [(0, .ref a)] := hl
  refine lv_aload_n hx hb d_Ex_signum_0 rfl (lv_at hl 0 rfl) ?_
  refine x_callV0F S (c_Ex_settle l D aC a ad f mt ee n (by omega) hbd) t_Ex_45 (rm_ok (by decide) (by decide)) hK hN hP hD hS [0, 1] [] rfl rfl (fun w9 hw => by obtain ⟨g1, rfl, hn_g1, hb_g1⟩ := hw; exact ⟨rfl, Nat.le_of_ble_eq_true rfl⟩) 0 4 rfl rfl rfl hl.1 rfl (Nat.le_of_ble_eq_true rfl) d_Ex_signum_1 ⟨Nat.zero_le _, Nat.zero_le _⟩ (fun w1 ws1 H locs e9 hw hP hD hS => ?_)
  obtain ⟨g1, rfl, hn_g1, hb_g1⟩ := hw
  have e9 : ws1 = [(a, .inr (4, [.ref ad, .long (lI mt), .int (iI ee)])), (ad, eJ aC 112 g1)] := e9
  subst e9
  refine lv_aload_n hx hb d_Ex_signum_4 rfl (lv_at hl 0 rfl) ?_
  refine va_get (D := D) (ci := 4) (v := .ref ad) (C := R_Ex) (T := F_Ex) (N := 3) hx hb hts i_Ex hown hK hP 0 rfl rfl 0 (by decide) (hts _ wf_Ex_9) (fun _ h9 => h9) rfl d_Ex_signum_5 ?_
  refine lv_bipush (v := iI 111) hx hb d_Ex_signum_8 (by decide +kernel) ?_
  refine x_lald hx hb hK hP 1 rfl (by omega) (by decide) d_Ex_signum_10 ?_
  refine lv_lconst (v := lI 0) hx hb d_Ex_signum_11 (by decide +kernel) ?_
  refine x_lcmp_ge (tgt := 18) hx hb d_Ex_signum_12 d_Ex_signum_13 (by decide) (by have := hn_g1.topr hV; omega) (by omega) (fun c_12 => ?_) (fun c_12 => ?_)
  · have hV0 : 0 ≤ dg 27 f 112 := by have := hn_g1.sign; omega
    refine lv_aload_n hx hb d_Ex_signum_18 rfl (lv_at hl 0 rfl) ?_
    refine y_callV1 (V := .int (iI (tp (dg 27 f 112)))) S (c_Ex_topPlace l D aC a ad g1 mt ee (dg 27 f 112) hn_g1 ⟨hV0, hV.2⟩) t_Ex_48 (rm_ok (by decide) (by decide)) hK hN hP [0, 1] rfl 0 4 rfl rfl rfl hl.1 rfl (Nat.le_of_ble_eq_true rfl) d_Ex_signum_19 ⟨Nat.zero_le _, Nat.zero_le _⟩ ?_
    refine x_if_ge (tgt := 29) hx hb d_Ex_signum_22 (by decide) (by have := tp_big hV0 hV.2; have : -1 ≤ tp (dg 27 f 112) := (by unfold tp; split <;> omega); omega) (fun c_22 => ?_) (fun c_22 => ?_)
    · refine lv_iconst (v := iI 1) hx hb d_Ex_signum_29 rfl ?_
      exact x_iret hx hb hr hlocks hQ (⟨by rw [show sgI (dg 27 f 112) = 1 by unfold sgI; rw [if_neg (by omega), if_neg (by have := tp_neg hV0; omega)]], _, rfl, hn_g1, hb_g1⟩) rfl hP hS d_Ex_signum_30
    · refine lv_iconst (v := iI 0) hx hb d_Ex_signum_25 rfl ?_
      refine lv_goto (tgt := 30) hx hb d_Ex_signum_26 (by decide) ?_
      exact x_iret hx hb hr hlocks hQ (⟨by rw [show sgI (dg 27 f 112) = 0 by unfold sgI; rw [if_neg (by omega), if_pos (by have := tp_neg hV0; omega)]], _, rfl, hn_g1, hb_g1⟩) rfl hP hS d_Ex_signum_30
  · refine lv_iconst (v := iI (-1)) hx hb d_Ex_signum_16 rfl ?_
    exact x_iret hx hb hr hlocks hQ (⟨by rw [show sgI (dg 27 f 112) = -1 by unfold sgI; rw [if_pos (hn_g1.sign.mp (by omega))]], _, rfl, hn_g1, hb_g1⟩) rfl hP hS d_Ex_signum_17
set_option maxHeartbeats 4000000 in
set_option maxRecDepth 100000 in
theorem c_Ex_negate (l : Launch) (D : va_G) (aC : Nat → ClassId) (a ad : Nat) (f : Int → Int) (mt ee : Int) (n : Int) (hn : 0 ≤ n ∧ n ≤ 1000000) (hbd : Bd n f) : CT l D aC y_Ex_negate (rd 1 25) [.ref a] [(a, .inr (4, [.ref ad, .long (lI mt), .int (iI ee)])), (ad, eJ aC 112 f)] (fun v w => v = none ∧ ∃ g : Int → Int, w = [(a, .inr (4, [.ref ad, .long (lI mt), .int (iI ee)])), (ad, eJ aC 112 g)] ∧ Nr g (-dg 27 f 112) ∧ Bd (n + 1) g) := by
  refine CT.of (cc := b_Ex_negate) (maxL := 2) (ret := none) (by decide +kernel) k_Ex_negate (Nat.le_of_ble_eq_true rfl) ?_
  intro p e s m below meth c Q S hr hlocks hQ hK hN hP hD hS ls hl
  obtain ⟨hx, hb, hml, hown, hts⟩ := id S
  have hl : lv_has ls 2 [(0, .ref a)] := hl
  refine lv_iconst (v := iI 0) hx hb d_Ex_negate_0 rfl ?_
  refine lv_istore_n (lv' := [(1, .int (iI 0)), (0, .ref a)]) hx hb d_Ex_negate_1 rfl hl (by decide) rfl (fun ls hl => ?_)
  have L2 : ∀ (nn : Nat) (t : Int) (g : Int → Int) (H : Heap) (locs : List Loc) (ls : Array Slot), (0 ≤ t ∧ t ≤ 112) → (∀ j : Int, 0 ≤ j → j < t → g j = -f j) → (∀ j : Int, t ≤ j → j < 112 → g j = f j) → 112 - t < (nn : Int) → va_P D CL [(a, .inr (4, [.ref ad, .long (lI mt), .int (iI ee)])), (ad, eJ aC 112 g)] H → va_D (aW [(a, .inr (4, [.ref ad, .long (lI mt), .int (iI ee)])), (ad, eJ aC 112 f)]) [(a, .inr (4, [.ref ad, .long (lI mt), .int (iI ee)])), (ad, eJ aC 112 g)] → va_S (aW [(a, .inr (4, [.ref ad, .long (lI mt), .int (iI ee)])), (ad, eJ aC 112 f)]) s.heap H locs → lv_has ls 2 [(1, .int (iI t)), (0, .ref a)] → W p l e (rd 1 25) s m ([.ref a]).toArray below meth c H locs 0 0 Q (F0 m 2 ls []) := by
    intro nn
    induction nn with
    | zero => intro t g H locs ls ht hg1 hg2 hnn; exact absurd hnn (by omega)
    | succ nn ih =>
      intro t g H locs ls ht hg1 hg2 hnn hP hD hS hl
      refine lv_iload_n hx hb d_Ex_negate_2 rfl (lv_at hl 0 rfl) ?_
      refine lv_bipush (v := iI 112) hx hb d_Ex_negate_3 (by decide +kernel) ?_
      refine x_icmp_ge (tgt := 27) hx hb d_Ex_negate_5 (by decide) (by omega) (by omega) (fun c_5 => ?_) (fun c_5 => ?_)
      · refine lv_aload_n hx hb d_Ex_negate_27 rfl (lv_at hl 1 rfl) ?_
        refine x_callV0F S (c_Ex_settle l D aC a ad g mt ee n (by omega) (neg_bd hbd (fun j h1 h2 => hg1 j h1 (by omega)))) t_Ex_45 (rm_ok (by decide) (by decide)) hK hN hP hD hS [0, 1] [] rfl rfl (fun w9 hw => by obtain ⟨g1, rfl, hn_g1, hb_g1⟩ := hw; exact ⟨rfl, Nat.le_of_ble_eq_true rfl⟩) 0 4 rfl rfl rfl hl.1 rfl (Nat.le_of_ble_eq_true rfl) d_Ex_negate_28 ⟨Nat.zero_le _, Nat.zero_le _⟩ (fun w1 ws1 H locs e9 hw hP hD hS => ?_)
        obtain ⟨g1, rfl, hn_g1, hb_g1⟩ := hw
        have e9 : ws1 = [(a, .inr (4, [.ref ad, .long (lI mt), .int (iI ee)])), (ad, eJ aC 112 g1)] := e9
        subst e9
        exact x_vret hx hb hr hlocks hQ (⟨rfl, _, rfl, by rw [← dg_neg (f := f) (g := g) 112 (fun j h1 h2 => hg1 j h1 (by omega))]; exact hn_g1, hb_g1⟩) rfl hP hS d_Ex_negate_31
      · refine lv_aload_n hx hb d_Ex_negate_8 rfl (lv_at hl 1 rfl) ?_
        refine va_get (D := D) (ci := 4) (v := .ref ad) (C := R_Ex) (T := F_Ex) (N := 3) hx hb hts i_Ex hown hK hP 0 rfl rfl 0 (by decide) (hts _ wf_Ex_9) (fun _ h9 => h9) rfl d_Ex_negate_9 ?_
        refine lv_iload_n hx hb d_Ex_negate_12 rfl (lv_at hl 0 rfl) ?_
        refine lv_aload_n hx hb d_Ex_negate_13 rfl (lv_at hl 1 rfl) ?_
        refine va_get (D := D) (ci := 4) (v := .ref ad) (C := R_Ex) (T := F_Ex) (N := 3) hx hb hts i_Ex hown hK hP 0 rfl rfl 0 (by decide) (hts _ wf_Ex_9) (fun _ h9 => h9) rfl d_Ex_negate_14 ?_
        refine lv_iload_n hx hb d_Ex_negate_17 rfl (lv_at hl 0 rfl) ?_
        refine x_lald hx hb hK hP 1 rfl (by omega) (by decide) d_Ex_negate_18 ?_
        refine x_lneg hx hb d_Ex_negate_19 ?_
        refine x_last hx hb hK hP hD hS 1 rfl (by omega) (by decide) d_Ex_negate_20 (fun H locs hP hD hS => ?_)
        have hP : va_P D CL [(a, .inr (4, [.ref ad, .long (lI mt), .int (iI ee)])), (ad, eJ aC 112 (updI g t (-(g t))))] H := hP
        have hD : va_D (aW [(a, .inr (4, [.ref ad, .long (lI mt), .int (iI ee)])), (ad, eJ aC 112 f)]) [(a, .inr (4, [.ref ad, .long (lI mt), .int (iI ee)])), (ad, eJ aC 112 (updI g t (-(g t))))] := hD
        refine lv_iinc (v := iI (t + 1)) (lv' := [(1, .int (iI (t + 1))), (0, .ref a)]) hx hb d_Ex_negate_21 hl (k := 0) rfl (iI_add _ _) (by decide) rfl (fun ls hl => ?_)
        refine lv_goto (tgt := 2) hx hb d_Ex_negate_24 (by decide) ?_
        exact ih (t + 1) (updI g t (-(g t))) _ _ ls (by omega) (fun j h1 h2 => by
          by_cases hj : j = t
          · rw [hj, updI_s, hg2 t (by omega) (by omega)]
          · rw [updI_n hj]; exact hg1 j h1 (by omega)) (fun j h1 h2 => by rw [updI_n (by omega)]; exact hg2 j (by omega) h2) (by omega) hP hD hS (lv_sub hl [0, 1] rfl)
  exact L2 _ 0 f _ _ ls (by omega) (fun j h1 h2 => by omega) (fun j h1 h2 => rfl) (n_lt _) hP hD hS (lv_sub hl [0, 1] rfl)
set_option maxHeartbeats 4000000 in
set_option maxRecDepth 100000 in
theorem c_Ex_raiseTo (l : Launch) (D : va_G) (aC : Nat → ClassId) (a ad b bd : Nat) (f h : Int → Int) (mt ee mu eu n n' : Int) (hn : 0 ≤ n ∧ n ≤ 1000000) (hn2 : 0 ≤ n' ∧ n' ≤ 1000000) (hbd : Bd n f) (hbd2 : Bd n' h) (hV : -bigV < dg 27 f 112 ∧ dg 27 f 112 < bigV) (hU : -bigV < dg 27 h 112 ∧ dg 27 h 112 < bigV) : CT l D aC y_Ex_raiseTo (rd 1 25) [.ref a, .ref b] [(a, .inr (4, [.ref ad, .long (lI mt), .int (iI ee)])), (ad, eJ aC 112 f), (b, .inr (4, [.ref bd, .long (lI mu), .int (iI eu)])), (bd, eJ aC 112 h)] (fun v w => v = none ∧ ∃ g g' : Int → Int, w = [(a, .inr (4, [.ref ad, .long (lI mt), .int (iI ee)])), (ad, eJ aC 112 g), (b, .inr (4, [.ref bd, .long (lI mu), .int (iI eu)])), (bd, eJ aC 112 g')] ∧ Nr g (max (dg 27 f 112) (dg 27 h 112)) ∧ Bd (n + n' + 2) g ∧ Nr g' (dg 27 h 112) ∧ Bd (n' + 1) g') := by
  refine CT.of (cc := b_Ex_raiseTo) (maxL := 2) (ret := none) (by decide +kernel) k_Ex_raiseTo (Nat.le_of_ble_eq_true rfl) ?_
  intro p e s m below meth c Q S hr hlocks hQ hK hN hP hD hS ls hl
  obtain ⟨hx, hb, hml, hown, hts⟩ := id S
  have hl : lv_has ls 2 [(0, .ref a), (1, .ref b)] := hl
  refine lv_aload_n hx hb d_Ex_raiseTo_0 rfl (lv_at hl 0 rfl) ?_
  refine x_callV0F S (c_Ex_settle l D aC a ad f mt ee n (by omega) hbd) t_Ex_45 (rm_ok (by decide) (by decide)) hK hN hP hD hS [0, 1] [] rfl rfl (fun w9 hw => by obtain ⟨g1, rfl, hn_g1, hb_g1⟩ := hw; exact ⟨rfl, Nat.le_of_ble_eq_true rfl⟩) 0 4 rfl rfl rfl hl.1 rfl (Nat.le_of_ble_eq_true rfl) d_Ex_raiseTo_1 ⟨Nat.zero_le _, Nat.zero_le _⟩ (fun w1 ws1 H locs e9 hw hP hD hS => ?_)
  obtain ⟨g1, rfl, hn_g1, hb_g1⟩ := hw
  have e9 : ws1 = [(a, .inr (4, [.ref ad, .long (lI mt), .int (iI ee)])), (ad, eJ aC 112 g1), (b, .inr (4, [.ref bd, .long (lI mu), .int (iI eu)])), (bd, eJ aC 112 h)] := e9
  subst e9
  refine lv_aload_n hx hb d_Ex_raiseTo_4 rfl (lv_at hl 1 rfl) ?_
  refine x_callV0F S (c_Ex_settle l D aC b bd h mu eu n' (by omega) hbd2) t_Ex_45 (rm_ok (by decide) (by decide)) hK hN hP hD hS [2, 3] [] rfl rfl (fun w9 hw => by obtain ⟨g2, rfl, hn_g2, hb_g2⟩ := hw; exact ⟨rfl, Nat.le_of_ble_eq_true rfl⟩) 0 4 rfl rfl rfl hl.1 rfl (Nat.le_of_ble_eq_true rfl) d_Ex_raiseTo_5 ⟨Nat.zero_le _, Nat.zero_le _⟩ (fun w1 ws1 H locs e9 hw hP hD hS => ?_)
  obtain ⟨g2, rfl, hn_g2, hb_g2⟩ := hw
  have e9 : ws1 = [(a, .inr (4, [.ref ad, .long (lI mt), .int (iI ee)])), (ad, eJ aC 112 g1), (b, .inr (4, [.ref bd, .long (lI mu), .int (iI eu)])), (bd, eJ aC 112 g2)] := e9
  subst e9
  refine lv_aload_n hx hb d_Ex_raiseTo_8 rfl (lv_at hl 0 rfl) ?_
  refine lv_aload_n hx hb d_Ex_raiseTo_9 rfl (lv_at hl 1 rfl) ?_
  refine y_callV1 (V := .int (iI (zP (dg 27 f 112 < dg 27 h 112)))) S (c_Ex_isBelow l D aC a ad b bd g1 g2 mt ee mu eu (dg 27 f 112) (dg 27 h 112) hn_g1 hn_g2 hV hU) t_Ex_52 (rm_ok (by decide) (by decide)) hK hN hP [0, 1, 2, 3] rfl 0 4 rfl rfl rfl hl.1 rfl (Nat.le_of_ble_eq_true rfl) d_Ex_raiseTo_10 ⟨Nat.zero_le _, Nat.zero_le _⟩ ?_
  refine x_ifeqP (tgt := 31) hx hb d_Ex_raiseTo_13 (by decide) (fun c_13 => ?_) (fun c_13 => ?_)
  · exact x_vret hx hb hr hlocks hQ (⟨rfl, _, _, rfl, by rw [Int.max_eq_left (by omega)]; exact hn_g1, hb_g1.mono (by omega), hn_g2, hb_g2⟩) rfl hP hS d_Ex_raiseTo_31
  · refine lv_aload_n hx hb d_Ex_raiseTo_16 rfl (lv_at hl 1 rfl) ?_
    refine va_get (D := D) (ci := 4) (v := .ref bd) (C := R_Ex) (T := F_Ex) (N := 3) hx hb hts i_Ex hown hK hP 2 rfl rfl 0 (by decide) (hts _ wf_Ex_9) (fun _ h9 => h9) rfl d_Ex_raiseTo_17 ?_
    refine lv_iconst (v := iI 0) hx hb d_Ex_raiseTo_20 rfl ?_
    refine lv_aload_n hx hb d_Ex_raiseTo_21 rfl (lv_at hl 0 rfl) ?_
    refine va_get (D := D) (ci := 4) (v := .ref ad) (C := R_Ex) (T := F_Ex) (N := 3) hx hb hts i_Ex hown hK hP 0 rfl rfl 0 (by decide) (hts _ wf_Ex_9) (fun _ h9 => h9) rfl d_Ex_raiseTo_22 ?_
    refine lv_iconst (v := iI 0) hx hb d_Ex_raiseTo_25 rfl ?_
    refine lv_bipush (v := iI 112) hx hb d_Ex_raiseTo_26 (by decide +kernel) ?_
    refine x_copyJ S hl.1 wa_link wa_nat wa_stat wa_ini hK hP hD hS 3 1 rfl rfl (by decide) (Nat.le_of_ble_eq_true rfl) d_Ex_raiseTo_28 (fun H locs hP hD hS => ?_)
    have hP : va_P D CL [(a, .inr (4, [.ref ad, .long (lI mt), .int (iI ee)])), (ad, eJ aC 112 (fun j => if j < 112 then g2 j else g1 j)), (b, .inr (4, [.ref bd, .long (lI mu), .int (iI eu)])), (bd, eJ aC 112 g2)] H := hP
    have hD : va_D (aW [(a, .inr (4, [.ref ad, .long (lI mt), .int (iI ee)])), (ad, eJ aC 112 f), (b, .inr (4, [.ref bd, .long (lI mu), .int (iI eu)])), (bd, eJ aC 112 h)]) [(a, .inr (4, [.ref ad, .long (lI mt), .int (iI ee)])), (ad, eJ aC 112 (fun j => if j < 112 then g2 j else g1 j)), (b, .inr (4, [.ref bd, .long (lI mu), .int (iI eu)])), (bd, eJ aC 112 g2)] := hD
    exact x_vret hx hb hr hlocks hQ (⟨rfl, _, _, rfl, by rw [Int.max_eq_right (by omega)]; exact (cpy_nr hn_g2 hb_g2).1, ((cpy_nr hn_g2 hb_g2).2).mono (by omega), hn_g2, hb_g2⟩) rfl hP hS d_Ex_raiseTo_31
set_option maxHeartbeats 4000000 in
set_option maxRecDepth 100000 in
theorem c_Ex_roundUp_n (l : Launch) (D : va_G) (aC : Nat → ClassId) (a ad : Nat) (f : Int → Int) (mt ee : Int) (n : Int) (hn : 0 ≤ n ∧ n ≤ 900000) (hbd : Bd n f) (hV : -bigV < dg 27 f 112 ∧ dg 27 f 112 < bigV) (hs : dg 27 f 112 < 0) : CT l D aC y_Ex_roundUp (rd 4 84) [.ref a] [(a, .inr (4, [.ref ad, .long (lI mt), .int (iI ee)])), (ad, eJ aC 112 f)] (fun v w => v = none ∧ ∃ g : Int → Int, w = [(a, .inr (4, [.ref ad, .long (lI (ruM (dg 27 f 112))), .int (iI (ruL (dg 27 f 112) - 1539))])), (ad, eJ aC 112 g)] ∧ Bd (n + 2) g) := by
  refine CT.of (cc := b_Ex_roundUp) (maxL := 5) (ret := none) (by decide +kernel) k_Ex_roundUp (Nat.le_of_ble_eq_true rfl) ?_
  intro p e s m below meth c Q S hr hlocks hQ hK hN hP hD hS ls hl
  obtain ⟨hx, hb, hml, hown, hts⟩ := id S
  have hl : lv_has ls 5 [(0, .ref a)] := hl
  refine lv_aload_n hx hb d_Ex_roundUp_0 rfl (lv_at hl 0 rfl) ?_
  refine x_callV1F (V := .int (iI (sgI (dg 27 f 112)))) S (c_Ex_signum l D aC a ad f mt ee n (by omega) hbd (hV)) t_Ex_62 (rm_ok (by decide) (by decide)) hK hN hP hD hS [0, 1] [] rfl rfl (fun w9 hw => by obtain ⟨g1, rfl, hn_g1, hb_g1⟩ := hw; exact ⟨rfl, Nat.le_of_ble_eq_true rfl⟩) 0 4 rfl rfl rfl hl.1 rfl (Nat.le_of_ble_eq_true rfl) d_Ex_roundUp_1 ⟨Nat.zero_le _, Nat.zero_le _⟩ (fun w1 ws1 H locs e9 hw hP hD hS => ?_)
  obtain ⟨g1, rfl, hn_g1, hb_g1⟩ := hw
  have e9 : ws1 = [(a, .inr (4, [.ref ad, .long (lI mt), .int (iI ee)])), (ad, eJ aC 112 g1)] := e9
  subst e9
  refine x_if_ge (tgt := 11) hx hb d_Ex_roundUp_4 (by decide) (by unfold sgI; split <;> (try split) <;> omega) (fun c_4 => (by exfalso; unfold sgI at c_4; rw [if_pos hs] at c_4; omega)) (fun c_4 => ?_)
  refine lv_iconst (v := iI 1) hx hb d_Ex_roundUp_7 rfl ?_
  refine lv_goto (tgt := 12) hx hb d_Ex_roundUp_8 (by decide) ?_
  refine lv_istore_n (lv' := [(1, .int (iI 1)), (0, .ref a)]) hx hb d_Ex_roundUp_12 rfl hl (by decide) rfl (fun ls hl => ?_)
  refine lv_iload_n hx hb d_Ex_roundUp_13 rfl (lv_at hl 0 rfl) ?_
  refine x_if_eq (tgt := 21) hx hb d_Ex_roundUp_14 (by decide) (by decide) (fun c_14 => (by exfalso; omega)) (fun c_14 => ?_)
  refine lv_aload_n hx hb d_Ex_roundUp_17 rfl (lv_at hl 1 rfl) ?_
  refine x_callV0F S (c_Ex_negate l D aC a ad g1 mt ee (n + 1) (by omega) hb_g1) t_Ex_65 (rm_ok (by decide) (by decide)) hK hN hP hD hS [0, 1] [] rfl rfl (fun w9 hw => by obtain ⟨g2, rfl, hn_g2, hb_g2⟩ := hw; exact ⟨rfl, Nat.le_of_ble_eq_true rfl⟩) 0 4 rfl rfl rfl hl.1 rfl (Nat.le_of_ble_eq_true rfl) d_Ex_roundUp_18 ⟨Nat.zero_le _, Nat.zero_le _⟩ (fun w1 ws1 H locs e9 hw hP hD hS => ?_)
  obtain ⟨g2, rfl, hn_g2, hb_g2⟩ := hw
  have e9 : ws1 = [(a, .inr (4, [.ref ad, .long (lI mt), .int (iI ee)])), (ad, eJ aC 112 g2)] := e9
  subst e9
  have hA : Nr g2 ((dg 27 f 112).natAbs : Int) := by rw [show ((dg 27 f 112).natAbs : Int) = -dg 27 f 112 by omega]; exact (by rw [← hn_g1.2]; exact hn_g2)
  have hL := ruL_r hV
  have hT0 := tp_r (V := ((dg 27 f 112).natAbs : Int)) (by omega) (by omega)
  have hT := ruL_top (V := dg 27 f 112)
  refine lv_aload_n hx hb d_Ex_roundUp_21 rfl (lv_at hl 1 rfl) ?_
  refine y_callV1 (V := .int (iI (tp ((dg 27 f 112).natAbs : Int)))) S (c_Ex_topPlace l D aC a ad g2 mt ee ((dg 27 f 112).natAbs : Int) hA (by omega)) t_Ex_48 (rm_ok (by decide) (by decide)) hK hN hP [0, 1] rfl 0 4 rfl rfl rfl hl.1 rfl (Nat.le_of_ble_eq_true rfl) d_Ex_roundUp_22 ⟨Nat.zero_le _, Nat.zero_le _⟩ ?_
  refine lv_bipush (v := iI 53) hx hb d_Ex_roundUp_25 (by decide +kernel) ?_
  refine x_isub hx hb d_Ex_roundUp_27 ?_
  refine lv_iconst (v := iI 1) hx hb d_Ex_roundUp_28 rfl ?_
  refine x_iadd hx hb d_Ex_roundUp_29 ?_
  refine lv_sipush (v := iI 465) hx hb d_Ex_roundUp_30 (by decide +kernel) ?_
  refine y_callS1 (V := .int (iI (max (((tp ((dg 27 f 112).natAbs : Int)) - 53) + 1) 465))) S (c_max l D aC (((tp ((dg 27 f 112).natAbs : Int)) - 53) + 1) 465 (by omega) (by omega)) t_Ex_68 (rm_ok (by decide) (by decide)) hK hN hP [] rfl rfl hl.1 rfl (Nat.le_of_ble_eq_true rfl) d_Ex_roundUp_33 ⟨Nat.zero_le _, Nat.zero_le _⟩ ?_
  refine x_top (max (((tp ((dg 27 f 112).natAbs : Int)) - 53) + 1) 465) (ruL (dg 27 f 112)) (rfl) ?_
  refine lv_istore_n (lv' := [(2, .int (iI (ruL (dg 27 f 112)))), (1, .int (iI 1)), (0, .ref a)]) hx hb d_Ex_roundUp_36 rfl hl (by decide) rfl (fun ls hl => ?_)
  refine lv_aload_n hx hb d_Ex_roundUp_37 rfl (lv_at hl 2 rfl) ?_
  refine lv_iload_n hx hb d_Ex_roundUp_38 rfl (lv_at hl 0 rfl) ?_
  refine y_callV1 (V := .long (lI (((dg 27 f 112).natAbs : Int) / 2 ^ (ruL (dg 27 f 112)).toNat % 2 ^ 53))) S (c_Ex_mantissaFrom l D aC a ad g2 mt ee ((dg 27 f 112).natAbs : Int) (ruL (dg 27 f 112)) hA (by omega) (by omega)) t_Ex_71 (rm_ok (by decide) (by decide)) hK hN hP [0, 1] rfl 0 4 rfl rfl rfl hl.1 rfl (Nat.le_of_ble_eq_true rfl) d_Ex_roundUp_39 ⟨Nat.zero_le _, Nat.zero_le _⟩ ?_
  refine x_topl (((dg 27 f 112).natAbs : Int) / 2 ^ (ruL (dg 27 f 112)).toNat % 2 ^ 53) (((dg 27 f 112).natAbs : Int) / 2 ^ (ruL (dg 27 f 112)).toNat) (hT.1) ?_
  refine lv_lstore_n (lv' := [(3, .long (lI (((dg 27 f 112).natAbs : Int) / 2 ^ (ruL (dg 27 f 112)).toNat))), (2, .int (iI (ruL (dg 27 f 112)))), (1, .int (iI 1)), (0, .ref a)]) hx hb d_Ex_roundUp_42 rfl hl (by decide) rfl (fun ls hl => ?_)
  refine lv_iload_n hx hb d_Ex_roundUp_43 rfl (lv_at hl 2 rfl) ?_
  refine x_if_ne (tgt := 59) hx hb d_Ex_roundUp_44 (by decide) (by decide) (fun c_44 => ?_) (fun c_44 => (by exfalso; omega))
  refine lv_aload_n hx hb d_Ex_roundUp_59 rfl (lv_at hl 3 rfl) ?_
  refine lv_iload_n hx hb d_Ex_roundUp_60 rfl (lv_at hl 2 rfl) ?_
  refine x_if_eq (tgt := 69) hx hb d_Ex_roundUp_61 (by decide) (by decide) (fun c_61 => (by exfalso; omega)) (fun c_61 => ?_)
  refine lv_lload_n hx hb d_Ex_roundUp_64 rfl (lv_at hl 0 rfl) ?_
  refine x_lneg hx hb d_Ex_roundUp_65 ?_
  refine lv_goto (tgt := 70) hx hb d_Ex_roundUp_66 (by decide) ?_
  refine x_topl (-(((dg 27 f 112).natAbs : Int) / 2 ^ (ruL (dg 27 f 112)).toNat)) (ruM (dg 27 f 112)) (by unfold ruM; rw [if_pos hs]) ?_
  refine va_put (D := D) (ci := 4) (v := .long (lI (ruM (dg 27 f 112)))) (ty := .long) (C := R_Ex) (T := F_Ex) (N := 3) hx hb hts i_Ex t_Ex t_Ex_ok n_Ex hown hK hP hD hS 0 rfl rfl 1 (by decide) (hts _ wf_Ex_79) (fun _ h9 => h9) rfl (by decide +kernel) rfl rfl (Nat.le_of_ble_eq_true rfl) d_Ex_roundUp_70 (fun H locs hP hD hS => ?_)
  have hP : va_P D CL [(a, .inr (4, [.ref ad, .long (lI (ruM (dg 27 f 112))), .int (iI ee)])), (ad, eJ aC 112 g2)] H := hP
  have hD : va_D (aW [(a, .inr (4, [.ref ad, .long (lI mt), .int (iI ee)])), (ad, eJ aC 112 f)]) [(a, .inr (4, [.ref ad, .long (lI (ruM (dg 27 f 112))), .int (iI ee)])), (ad, eJ aC 112 g2)] := hD
  refine lv_aload_n hx hb d_Ex_roundUp_73 rfl (lv_at hl 3 rfl) ?_
  refine lv_iload_n hx hb d_Ex_roundUp_74 rfl (lv_at hl 1 rfl) ?_
  refine lv_sipush (v := iI 1539) hx hb d_Ex_roundUp_75 (by decide +kernel) ?_
  refine x_isub hx hb d_Ex_roundUp_78 ?_
  refine va_put (D := D) (ci := 4) (v := .int (iI ((ruL (dg 27 f 112)) - 1539))) (ty := .int) (C := R_Ex) (T := F_Ex) (N := 3) hx hb hts i_Ex t_Ex t_Ex_ok n_Ex hown hK hP hD hS 0 rfl rfl 2 (by decide) (hts _ wf_Ex_83) (fun _ h9 => h9) rfl (by decide +kernel) rfl rfl (Nat.le_of_ble_eq_true rfl) d_Ex_roundUp_79 (fun H locs hP hD hS => ?_)
  have hP : va_P D CL [(a, .inr (4, [.ref ad, .long (lI (ruM (dg 27 f 112))), .int (iI ((ruL (dg 27 f 112)) - 1539))])), (ad, eJ aC 112 g2)] H := hP
  have hD : va_D (aW [(a, .inr (4, [.ref ad, .long (lI mt), .int (iI ee)])), (ad, eJ aC 112 f)]) [(a, .inr (4, [.ref ad, .long (lI (ruM (dg 27 f 112))), .int (iI ((ruL (dg 27 f 112)) - 1539))])), (ad, eJ aC 112 g2)] := hD
  exact x_vret hx hb hr hlocks hQ (⟨rfl, _, rfl, hb_g2.mono (by omega)⟩) rfl hP hS d_Ex_roundUp_82
set_option maxHeartbeats 4000000 in
set_option maxRecDepth 100000 in
theorem c_Ex_roundUp_p (l : Launch) (D : va_G) (aC : Nat → ClassId) (a ad : Nat) (f : Int → Int) (mt ee : Int) (n : Int) (hn : 0 ≤ n ∧ n ≤ 900000) (hbd : Bd n f) (hV : -bigV < dg 27 f 112 ∧ dg 27 f 112 < bigV) (hs : 0 ≤ dg 27 f 112) : CT l D aC y_Ex_roundUp (rd 4 84) [.ref a] [(a, .inr (4, [.ref ad, .long (lI mt), .int (iI ee)])), (ad, eJ aC 112 f)] (fun v w => v = none ∧ ∃ g : Int → Int, w = [(a, .inr (4, [.ref ad, .long (lI (ruM (dg 27 f 112))), .int (iI (ruL (dg 27 f 112) - 1539))])), (ad, eJ aC 112 g)] ∧ Bd (n + 2) g) := by
  refine CT.of (cc := b_Ex_roundUp) (maxL := 5) (ret := none) (by decide +kernel) k_Ex_roundUp (Nat.le_of_ble_eq_true rfl) ?_
  intro p e s m below meth c Q S hr hlocks hQ hK hN hP hD hS ls hl
  obtain ⟨hx, hb, hml, hown, hts⟩ := id S
  have hl : lv_has ls 5 [(0, .ref a)] := hl
  refine lv_aload_n hx hb d_Ex_roundUp_0 rfl (lv_at hl 0 rfl) ?_
  refine x_callV1F (V := .int (iI (sgI (dg 27 f 112)))) S (c_Ex_signum l D aC a ad f mt ee n (by omega) hbd (hV)) t_Ex_62 (rm_ok (by decide) (by decide)) hK hN hP hD hS [0, 1] [] rfl rfl (fun w9 hw => by obtain ⟨g1, rfl, hn_g1, hb_g1⟩ := hw; exact ⟨rfl, Nat.le_of_ble_eq_true rfl⟩) 0 4 rfl rfl rfl hl.1 rfl (Nat.le_of_ble_eq_true rfl) d_Ex_roundUp_1 ⟨Nat.zero_le _, Nat.zero_le _⟩ (fun w1 ws1 H locs e9 hw hP hD hS => ?_)
  obtain ⟨g1, rfl, hn_g1, hb_g1⟩ := hw
  have e9 : ws1 = [(a, .inr (4, [.ref ad, .long (lI mt), .int (iI ee)])), (ad, eJ aC 112 g1)] := e9
  subst e9
  refine x_if_ge (tgt := 11) hx hb d_Ex_roundUp_4 (by decide) (by unfold sgI; split <;> (try split) <;> omega) (fun c_4 => ?_) (fun c_4 => (by exfalso; unfold sgI at c_4; rw [if_neg (by omega)] at c_4; split at c_4 <;> omega))
  refine lv_iconst (v := iI 0) hx hb d_Ex_roundUp_11 rfl ?_
  refine lv_istore_n (lv' := [(1, .int (iI 0)), (0, .ref a)]) hx hb d_Ex_roundUp_12 rfl hl (by decide) rfl (fun ls hl => ?_)
  refine lv_iload_n hx hb d_Ex_roundUp_13 rfl (lv_at hl 0 rfl) ?_
  refine x_if_eq (tgt := 21) hx hb d_Ex_roundUp_14 (by decide) (by decide) (fun c_14 => ?_) (fun c_14 => (by exfalso; omega))
  have hA : Nr g1 ((dg 27 f 112).natAbs : Int) := by rw [show ((dg 27 f 112).natAbs : Int) = dg 27 f 112 by omega]; exact hn_g1
  have hL := ruL_r hV
  have hT0 := tp_r (V := ((dg 27 f 112).natAbs : Int)) (by omega) (by omega)
  have hT := ruL_top (V := dg 27 f 112)
  refine lv_aload_n hx hb d_Ex_roundUp_21 rfl (lv_at hl 1 rfl) ?_
  refine y_callV1 (V := .int (iI (tp ((dg 27 f 112).natAbs : Int)))) S (c_Ex_topPlace l D aC a ad g1 mt ee ((dg 27 f 112).natAbs : Int) hA (by omega)) t_Ex_48 (rm_ok (by decide) (by decide)) hK hN hP [0, 1] rfl 0 4 rfl rfl rfl hl.1 rfl (Nat.le_of_ble_eq_true rfl) d_Ex_roundUp_22 ⟨Nat.zero_le _, Nat.zero_le _⟩ ?_
  refine lv_bipush (v := iI 53) hx hb d_Ex_roundUp_25 (by decide +kernel) ?_
  refine x_isub hx hb d_Ex_roundUp_27 ?_
  refine lv_iconst (v := iI 1) hx hb d_Ex_roundUp_28 rfl ?_
  refine x_iadd hx hb d_Ex_roundUp_29 ?_
  refine lv_sipush (v := iI 465) hx hb d_Ex_roundUp_30 (by decide +kernel) ?_
  refine y_callS1 (V := .int (iI (max (((tp ((dg 27 f 112).natAbs : Int)) - 53) + 1) 465))) S (c_max l D aC (((tp ((dg 27 f 112).natAbs : Int)) - 53) + 1) 465 (by omega) (by omega)) t_Ex_68 (rm_ok (by decide) (by decide)) hK hN hP [] rfl rfl hl.1 rfl (Nat.le_of_ble_eq_true rfl) d_Ex_roundUp_33 ⟨Nat.zero_le _, Nat.zero_le _⟩ ?_
  refine x_top (max (((tp ((dg 27 f 112).natAbs : Int)) - 53) + 1) 465) (ruL (dg 27 f 112)) (rfl) ?_
  refine lv_istore_n (lv' := [(2, .int (iI (ruL (dg 27 f 112)))), (1, .int (iI 0)), (0, .ref a)]) hx hb d_Ex_roundUp_36 rfl hl (by decide) rfl (fun ls hl => ?_)
  refine lv_aload_n hx hb d_Ex_roundUp_37 rfl (lv_at hl 2 rfl) ?_
  refine lv_iload_n hx hb d_Ex_roundUp_38 rfl (lv_at hl 0 rfl) ?_
  refine y_callV1 (V := .long (lI (((dg 27 f 112).natAbs : Int) / 2 ^ (ruL (dg 27 f 112)).toNat % 2 ^ 53))) S (c_Ex_mantissaFrom l D aC a ad g1 mt ee ((dg 27 f 112).natAbs : Int) (ruL (dg 27 f 112)) hA (by omega) (by omega)) t_Ex_71 (rm_ok (by decide) (by decide)) hK hN hP [0, 1] rfl 0 4 rfl rfl rfl hl.1 rfl (Nat.le_of_ble_eq_true rfl) d_Ex_roundUp_39 ⟨Nat.zero_le _, Nat.zero_le _⟩ ?_
  refine x_topl (((dg 27 f 112).natAbs : Int) / 2 ^ (ruL (dg 27 f 112)).toNat % 2 ^ 53) (((dg 27 f 112).natAbs : Int) / 2 ^ (ruL (dg 27 f 112)).toNat) (hT.1) ?_
  refine lv_lstore_n (lv' := [(3, .long (lI (((dg 27 f 112).natAbs : Int) / 2 ^ (ruL (dg 27 f 112)).toNat))), (2, .int (iI (ruL (dg 27 f 112)))), (1, .int (iI 0)), (0, .ref a)]) hx hb d_Ex_roundUp_42 rfl hl (by decide) rfl (fun ls hl => ?_)
  refine lv_iload_n hx hb d_Ex_roundUp_43 rfl (lv_at hl 2 rfl) ?_
  refine x_if_ne (tgt := 59) hx hb d_Ex_roundUp_44 (by decide) (by decide) (fun c_44 => (by exfalso; omega)) (fun c_44 => ?_)
  refine lv_aload_n hx hb d_Ex_roundUp_47 rfl (lv_at hl 3 rfl) ?_
  refine lv_iload_n hx hb d_Ex_roundUp_48 rfl (lv_at hl 1 rfl) ?_
  refine y_callV1 (V := .int (iI (zP (((dg 27 f 112).natAbs : Int) % 2 ^ (ruL (dg 27 f 112)).toNat ≠ 0)))) S (c_Ex_hasBitUnder l D aC a ad g1 mt ee ((dg 27 f 112).natAbs : Int) (ruL (dg 27 f 112)) hA (by omega) (by omega)) t_Ex_75 (rm_ok (by decide) (by decide)) hK hN hP [0, 1] rfl 0 4 rfl rfl rfl hl.1 rfl (Nat.le_of_ble_eq_true rfl) d_Ex_roundUp_49 ⟨Nat.zero_le _, Nat.zero_le _⟩ ?_
  refine x_ifeqP (tgt := 59) hx hb d_Ex_roundUp_52 (by decide) (fun c_52 => ?_) (fun c_52 => ?_)
  · have eA : ((dg 27 f 112).natAbs : Int) = dg 27 f 112 := by omega
    rw [eA] at c_52
    refine lv_aload_n hx hb d_Ex_roundUp_59 rfl (lv_at hl 3 rfl) ?_
    refine lv_iload_n hx hb d_Ex_roundUp_60 rfl (lv_at hl 2 rfl) ?_
    refine x_if_eq (tgt := 69) hx hb d_Ex_roundUp_61 (by decide) (by decide) (fun c_61 => ?_) (fun c_61 => (by exfalso; omega))
    refine lv_lload_n hx hb d_Ex_roundUp_69 rfl (lv_at hl 0 rfl) ?_
    refine x_topl (((dg 27 f 112).natAbs : Int) / 2 ^ (ruL (dg 27 f 112)).toNat) (ruM (dg 27 f 112)) (by unfold ruM; rw [if_neg (by omega), zP_f c_52, eA, Int.add_zero]) ?_
    refine va_put (D := D) (ci := 4) (v := .long (lI (ruM (dg 27 f 112)))) (ty := .long) (C := R_Ex) (T := F_Ex) (N := 3) hx hb hts i_Ex t_Ex t_Ex_ok n_Ex hown hK hP hD hS 0 rfl rfl 1 (by decide) (hts _ wf_Ex_79) (fun _ h9 => h9) rfl (by decide +kernel) rfl rfl (Nat.le_of_ble_eq_true rfl) d_Ex_roundUp_70 (fun H locs hP hD hS => ?_)
    have hP : va_P D CL [(a, .inr (4, [.ref ad, .long (lI (ruM (dg 27 f 112))), .int (iI ee)])), (ad, eJ aC 112 g1)] H := hP
    have hD : va_D (aW [(a, .inr (4, [.ref ad, .long (lI mt), .int (iI ee)])), (ad, eJ aC 112 f)]) [(a, .inr (4, [.ref ad, .long (lI (ruM (dg 27 f 112))), .int (iI ee)])), (ad, eJ aC 112 g1)] := hD
    refine lv_aload_n hx hb d_Ex_roundUp_73 rfl (lv_at hl 3 rfl) ?_
    refine lv_iload_n hx hb d_Ex_roundUp_74 rfl (lv_at hl 1 rfl) ?_
    refine lv_sipush (v := iI 1539) hx hb d_Ex_roundUp_75 (by decide +kernel) ?_
    refine x_isub hx hb d_Ex_roundUp_78 ?_
    refine va_put (D := D) (ci := 4) (v := .int (iI ((ruL (dg 27 f 112)) - 1539))) (ty := .int) (C := R_Ex) (T := F_Ex) (N := 3) hx hb hts i_Ex t_Ex t_Ex_ok n_Ex hown hK hP hD hS 0 rfl rfl 2 (by decide) (hts _ wf_Ex_83) (fun _ h9 => h9) rfl (by decide +kernel) rfl rfl (Nat.le_of_ble_eq_true rfl) d_Ex_roundUp_79 (fun H locs hP hD hS => ?_)
    have hP : va_P D CL [(a, .inr (4, [.ref ad, .long (lI (ruM (dg 27 f 112))), .int (iI ((ruL (dg 27 f 112)) - 1539))])), (ad, eJ aC 112 g1)] H := hP
    have hD : va_D (aW [(a, .inr (4, [.ref ad, .long (lI mt), .int (iI ee)])), (ad, eJ aC 112 f)]) [(a, .inr (4, [.ref ad, .long (lI (ruM (dg 27 f 112))), .int (iI ((ruL (dg 27 f 112)) - 1539))])), (ad, eJ aC 112 g1)] := hD
    exact x_vret hx hb hr hlocks hQ (⟨rfl, _, rfl, hb_g1.mono (by omega)⟩) rfl hP hS d_Ex_roundUp_82
  · have eA : ((dg 27 f 112).natAbs : Int) = dg 27 f 112 := by omega
    rw [eA] at c_52
    refine lv_lload_n hx hb d_Ex_roundUp_55 rfl (lv_at hl 0 rfl) ?_
    refine lv_lconst (v := lI 1) hx hb d_Ex_roundUp_56 (by decide +kernel) ?_
    refine x_ladd hx hb d_Ex_roundUp_57 ?_
    refine lv_lstore_n (lv' := [(3, .long (lI ((((dg 27 f 112).natAbs : Int) / 2 ^ (ruL (dg 27 f 112)).toNat) + 1))), (2, .int (iI (ruL (dg 27 f 112)))), (1, .int (iI 0)), (0, .ref a)]) hx hb d_Ex_roundUp_58 rfl hl (by decide) rfl (fun ls hl => ?_)
    refine lv_aload_n hx hb d_Ex_roundUp_59 rfl (lv_at hl 3 rfl) ?_
    refine lv_iload_n hx hb d_Ex_roundUp_60 rfl (lv_at hl 2 rfl) ?_
    refine x_if_eq (tgt := 69) hx hb d_Ex_roundUp_61 (by decide) (by decide) (fun c_61 => ?_) (fun c_61 => (by exfalso; omega))
    refine lv_lload_n hx hb d_Ex_roundUp_69 rfl (lv_at hl 0 rfl) ?_
    refine x_topl ((((dg 27 f 112).natAbs : Int) / 2 ^ (ruL (dg 27 f 112)).toNat) + 1) (ruM (dg 27 f 112)) (by unfold ruM; rw [if_neg (by omega), zP_t c_52, eA]) ?_
    refine va_put (D := D) (ci := 4) (v := .long (lI (ruM (dg 27 f 112)))) (ty := .long) (C := R_Ex) (T := F_Ex) (N := 3) hx hb hts i_Ex t_Ex t_Ex_ok n_Ex hown hK hP hD hS 0 rfl rfl 1 (by decide) (hts _ wf_Ex_79) (fun _ h9 => h9) rfl (by decide +kernel) rfl rfl (Nat.le_of_ble_eq_true rfl) d_Ex_roundUp_70 (fun H locs hP hD hS => ?_)
    have hP : va_P D CL [(a, .inr (4, [.ref ad, .long (lI (ruM (dg 27 f 112))), .int (iI ee)])), (ad, eJ aC 112 g1)] H := hP
    have hD : va_D (aW [(a, .inr (4, [.ref ad, .long (lI mt), .int (iI ee)])), (ad, eJ aC 112 f)]) [(a, .inr (4, [.ref ad, .long (lI (ruM (dg 27 f 112))), .int (iI ee)])), (ad, eJ aC 112 g1)] := hD
    refine lv_aload_n hx hb d_Ex_roundUp_73 rfl (lv_at hl 3 rfl) ?_
    refine lv_iload_n hx hb d_Ex_roundUp_74 rfl (lv_at hl 1 rfl) ?_
    refine lv_sipush (v := iI 1539) hx hb d_Ex_roundUp_75 (by decide +kernel) ?_
    refine x_isub hx hb d_Ex_roundUp_78 ?_
    refine va_put (D := D) (ci := 4) (v := .int (iI ((ruL (dg 27 f 112)) - 1539))) (ty := .int) (C := R_Ex) (T := F_Ex) (N := 3) hx hb hts i_Ex t_Ex t_Ex_ok n_Ex hown hK hP hD hS 0 rfl rfl 2 (by decide) (hts _ wf_Ex_83) (fun _ h9 => h9) rfl (by decide +kernel) rfl rfl (Nat.le_of_ble_eq_true rfl) d_Ex_roundUp_79 (fun H locs hP hD hS => ?_)
    have hP : va_P D CL [(a, .inr (4, [.ref ad, .long (lI (ruM (dg 27 f 112))), .int (iI ((ruL (dg 27 f 112)) - 1539))])), (ad, eJ aC 112 g1)] H := hP
    have hD : va_D (aW [(a, .inr (4, [.ref ad, .long (lI mt), .int (iI ee)])), (ad, eJ aC 112 f)]) [(a, .inr (4, [.ref ad, .long (lI (ruM (dg 27 f 112))), .int (iI ((ruL (dg 27 f 112)) - 1539))])), (ad, eJ aC 112 g1)] := hD
    exact x_vret hx hb hr hlocks hQ (⟨rfl, _, rfl, hb_g1.mono (by omega)⟩) rfl hP hS d_Ex_roundUp_82
theorem c_Ex_roundUp (l : Launch) (D : va_G) (aC : Nat → ClassId) (a ad : Nat) (f : Int → Int) (mt ee : Int) (n : Int) (hn : 0 ≤ n ∧ n ≤ 900000) (hbd : Bd n f) (hV : -bigV < dg 27 f 112 ∧ dg 27 f 112 < bigV) : CT l D aC y_Ex_roundUp (rd 4 84) [.ref a] [(a, .inr (4, [.ref ad, .long (lI mt), .int (iI ee)])), (ad, eJ aC 112 f)] (fun v w => v = none ∧ ∃ g : Int → Int, w = [(a, .inr (4, [.ref ad, .long (lI (ruM (dg 27 f 112))), .int (iI (ruL (dg 27 f 112) - 1539))])), (ad, eJ aC 112 g)] ∧ Bd (n + 2) g) := by
  rcases (show dg 27 f 112 < 0 ∨ 0 ≤ dg 27 f 112 by omega) with h | h
  · exact c_Ex_roundUp_n l D aC a ad f mt ee n hn hbd hV h
  · exact c_Ex_roundUp_p l D aC a ad f mt ee n hn hbd hV h
set_option maxHeartbeats 4000000 in
set_option maxRecDepth 100000 in
theorem c_Ex_isTooGreat (l : Launch) (D : va_G) (aC : Nat → ClassId) (a ad : Nat) (f : Int → Int) (mt ee : Int) (hm : -9007199254740992 ≤ mt ∧ mt ≤ 9007199254740992) (he : -100000 ≤ ee ∧ ee ≤ 100000) : CR l D aC y_Ex_isTooGreat (rd 0 0) [.ref a] [(a, .inr (4, [.ref ad, .long (lI mt), .int (iI ee)])), (ad, eJ aC 112 f)] (fun v => v = some (.int (iI (zP (0 < mt ∧ (971 < ee ∨ ee = 971 ∧ 9007199254740991 < mt)))))) := by
  refine CR.of (cc := b_Ex_isTooGreat) (maxL := 1) (ret := (some .boolean)) (by decide +kernel) k_Ex_isTooGreat (Nat.le_of_ble_eq_true rfl) ?_
  intro p e s m below meth c Q S hr hlocks hQ hK hN hP ls hl
  obtain ⟨hx, hb, hml, hown, hts⟩ := id S
  have hl : lv_has ls 1 [(0, .ref a)] := hl
  refine lv_aload_n hx hb d_Ex_isTooGreat_0 rfl (lv_at hl 0 rfl) ?_
  refine va_get (D := D) (ci := 4) (v := .long (lI mt)) (C := R_Ex) (T := F_Ex) (N := 3) hx hb hts i_Ex hown hK hP 0 rfl rfl 1 (by decide) (hts _ wf_Ex_79) (fun _ h9 => h9) rfl d_Ex_isTooGreat_1 ?_
  refine lv_lconst (v := lI 0) hx hb d_Ex_isTooGreat_4 (by decide +kernel) ?_
  refine x_lcmp_le (tgt := 44) hx hb d_Ex_isTooGreat_5 d_Ex_isTooGreat_6 (by decide) (by omega) (by omega) (fun c_5 => ?_) (fun c_5 => ?_)
  · refine lv_iconst (v := iI 0) hx hb d_Ex_isTooGreat_44 rfl ?_
    exact y_zret hx hb hr (rfl) hlocks hQ (by rw [zP_f (P := 0 < mt ∧ (971 < ee ∨ ee = 971 ∧ 9007199254740991 < mt)) (by omega)]) d_Ex_isTooGreat_45
  · refine lv_aload_n hx hb d_Ex_isTooGreat_9 rfl (lv_at hl 0 rfl) ?_
    refine va_get (D := D) (ci := 4) (v := .int (iI ee)) (C := R_Ex) (T := F_Ex) (N := 3) hx hb hts i_Ex hown hK hP 0 rfl rfl 2 (by decide) (hts _ wf_Ex_83) (fun _ h9 => h9) rfl d_Ex_isTooGreat_10 ?_
    refine lv_sipush (v := iI 971) hx hb d_Ex_isTooGreat_13 (by decide +kernel) ?_
    refine x_icmp_gt (tgt := 40) hx hb d_Ex_isTooGreat_16 (by decide) (by omega) (by omega) (fun c_16 => ?_) (fun c_16 => ?_)
    · refine lv_iconst (v := iI 1) hx hb d_Ex_isTooGreat_40 rfl ?_
      refine lv_goto (tgt := 45) hx hb d_Ex_isTooGreat_41 (by decide) ?_
      exact y_zret hx hb hr (rfl) hlocks hQ (by rw [zP_t (P := 0 < mt ∧ (971 < ee ∨ ee = 971 ∧ 9007199254740991 < mt)) (by omega)]) d_Ex_isTooGreat_45
    · refine lv_aload_n hx hb d_Ex_isTooGreat_19 rfl (lv_at hl 0 rfl) ?_
      refine va_get (D := D) (ci := 4) (v := .int (iI ee)) (C := R_Ex) (T := F_Ex) (N := 3) hx hb hts i_Ex hown hK hP 0 rfl rfl 2 (by decide) (hts _ wf_Ex_83) (fun _ h9 => h9) rfl d_Ex_isTooGreat_20 ?_
      refine lv_sipush (v := iI 971) hx hb d_Ex_isTooGreat_23 (by decide +kernel) ?_
      refine x_icmp_ne (tgt := 44) hx hb d_Ex_isTooGreat_26 (by decide) (by omega) (by omega) (fun c_26 => ?_) (fun c_26 => ?_)
      · refine lv_iconst (v := iI 0) hx hb d_Ex_isTooGreat_44 rfl ?_
        exact y_zret hx hb hr (rfl) hlocks hQ (by rw [zP_f (P := 0 < mt ∧ (971 < ee ∨ ee = 971 ∧ 9007199254740991 < mt)) (by omega)]) d_Ex_isTooGreat_45
      · refine lv_aload_n hx hb d_Ex_isTooGreat_29 rfl (lv_at hl 0 rfl) ?_
        refine va_get (D := D) (ci := 4) (v := .long (lI mt)) (C := R_Ex) (T := F_Ex) (N := 3) hx hb hts i_Ex hown hK hP 0 rfl rfl 1 (by decide) (hts _ wf_Ex_79) (fun _ h9 => h9) rfl d_Ex_isTooGreat_30 ?_
        refine x_ldc2 hx hb 9007199254740991 (by decide +kernel) hown (hts _ wk_Ex_84) d_Ex_isTooGreat_33 ?_
        refine x_lcmp_le (tgt := 44) hx hb d_Ex_isTooGreat_36 d_Ex_isTooGreat_37 (by decide) (by omega) (by omega) (fun c_36 => ?_) (fun c_36 => ?_)
        · refine lv_iconst (v := iI 0) hx hb d_Ex_isTooGreat_44 rfl ?_
          exact y_zret hx hb hr (rfl) hlocks hQ (by rw [zP_f (P := 0 < mt ∧ (971 < ee ∨ ee = 971 ∧ 9007199254740991 < mt)) (by omega)]) d_Ex_isTooGreat_45
        · refine lv_iconst (v := iI 1) hx hb d_Ex_isTooGreat_40 rfl ?_
          refine lv_goto (tgt := 45) hx hb d_Ex_isTooGreat_41 (by decide) ?_
          exact y_zret hx hb hr (rfl) hlocks hQ (by rw [zP_t (P := 0 < mt ∧ (971 < ee ∨ ee = 971 ∧ 9007199254740991 < mt)) (by omega)]) d_Ex_isTooGreat_45
set_option maxHeartbeats 4000000 in
set_option maxRecDepth 100000 in
theorem c_Ex_scaled_n (l : Launch) (D : va_G) (aC : Nat → ClassId) (mt ee : Int) (hm : -9007199254740992 ≤ mt ∧ mt ≤ 9007199254740992) (he : -1074 ≤ ee ∧ ee ≤ 971) (h971 : ee = 971 → -9007199254740992 < mt ∧ mt < 9007199254740992) (hs : ee < 0) : CR l D aC y_Ex_scaled (rd 1 20) [.long (lI mt), .int (iI ee)] [] (fun v => v = some (.double (dM mt ee))) := by
  refine CR.of (cc := b_Ex_scaled) (maxL := 9) (ret := (some .double)) (by decide +kernel) k_Ex_scaled (Nat.le_of_ble_eq_true rfl) ?_
  intro p e s m below meth c Q S hr hlocks hQ hK hN hP ls hl
  obtain ⟨hx, hb, hml, hown, hts⟩ := id S
  have hl : lv_has ls 9 [(0, .long (lI mt)), (2, .int (iI ee))] := hl
  refine lv_lload_n hx hb d_Ex_scaled_0 rfl (lv_at hl 0 rfl) ?_
  refine x_l2d hx hb d_Ex_scaled_1 (by omega) ?_
  refine lv_dstore_n (lv' := [(3, .double (dM mt 0)), (0, .long (lI mt)), (2, .int (iI ee))]) hx hb d_Ex_scaled_2 rfl hl (by decide) rfl (fun ls hl => ?_)
  refine lv_iload_n hx hb d_Ex_scaled_3 rfl (lv_at hl 2 rfl) ?_
  refine x_if_ge (tgt := 13) hx hb d_Ex_scaled_4 (by decide) (by omega) (fun c_4 => (by exfalso; omega)) (fun c_4 => ?_)
  refine x_ldc2d hx hb 1 (-1) (by decide +kernel) hown (hts _ wk_Ex_92) d_Ex_scaled_7 ?_
  refine lv_goto (tgt := 16) hx hb d_Ex_scaled_10 (by decide) ?_
  refine lv_dstore (lv' := [(5, .double (dM 1 (-1))), (3, .double (dM mt 0)), (0, .long (lI mt)), (2, .int (iI ee))]) hx hb d_Ex_scaled_16 hl (by decide) rfl (fun ls hl => ?_)
  refine lv_iload_n hx hb d_Ex_scaled_18 rfl (lv_at hl 3 rfl) ?_
  refine y_callS1 (V := .int (iI (ee.natAbs : Int))) S (c_absI l D aC ee (by omega)) t_Ex_96 (rm_ok (by decide) (by decide)) hK hN hP [] rfl rfl hl.1 rfl (Nat.le_of_ble_eq_true rfl) d_Ex_scaled_19 ⟨Nat.zero_le _, Nat.zero_le _⟩ ?_
  refine lv_istore (lv' := [(7, .int (iI (ee.natAbs : Int))), (5, .double (dM 1 (-1))), (3, .double (dM mt 0)), (0, .long (lI mt)), (2, .int (iI ee))]) hx hb d_Ex_scaled_22 hl (by decide) rfl (fun ls hl => ?_)
  refine lv_iconst (v := iI 0) hx hb d_Ex_scaled_24 rfl ?_
  refine lv_istore (lv' := [(8, .int (iI 0)), (7, .int (iI (ee.natAbs : Int))), (5, .double (dM 1 (-1))), (3, .double (dM mt 0)), (0, .long (lI mt)), (2, .int (iI ee))]) hx hb d_Ex_scaled_25 hl (by decide) rfl (fun ls hl => ?_)
  have L27 : ∀ (nn : Nat) (t : Int) (ls : Array Slot), (0 ≤ t ∧ t ≤ (ee.natAbs : Int)) → (ee.natAbs : Int) - t < (nn : Int) → lv_has ls 9 [(8, .int (iI t)), (7, .int (iI (ee.natAbs : Int))), (5, .double (dM 1 (-1))), (3, .double (dM mt (-t)))] → W p l e (rd 1 20) s m ([.long (lI mt), .int (iI ee)]).toArray below meth c s.heap [] 0 0 Q (F0 m 27 ls []) := by
    intro nn
    induction nn with
    | zero => intro t ls ht hnn; exact absurd hnn (by omega)
    | succ nn ih =>
      intro t ls ht hnn hl
      refine lv_iload hx hb d_Ex_scaled_27 (lv_at hl 0 rfl) ?_
      refine lv_iload hx hb d_Ex_scaled_29 (lv_at hl 1 rfl) ?_
      refine x_icmp_ge (tgt := 45) hx hb d_Ex_scaled_31 (by decide) (by omega) (by omega) (fun c_31 => ?_) (fun c_31 => ?_)
      · refine lv_dload_n hx hb d_Ex_scaled_45 rfl (lv_at hl 3 rfl) ?_
        exact y_dret hx hb hr hlocks hQ (by rw [show -t = ee by omega]) d_Ex_scaled_46
      · refine lv_dload_n hx hb d_Ex_scaled_34 rfl (lv_at hl 3 rfl) ?_
        refine lv_dload hx hb d_Ex_scaled_35 (lv_at hl 2 rfl) ?_
        refine x_dmul1 hx hb d_Ex_scaled_37 (by unfold dOk; omega) (by unfold dOk; omega) (by unfold dOk; omega) ?_
        refine lv_dstore_n (lv' := [(3, .double (dM mt ((-t) + (-1)))), (8, .int (iI t)), (7, .int (iI (ee.natAbs : Int))), (5, .double (dM 1 (-1)))]) hx hb d_Ex_scaled_38 rfl hl (by decide) rfl (fun ls hl => ?_)
        refine lv_iinc (v := iI (t + 1)) (lv' := [(8, .int (iI (t + 1))), (3, .double (dM mt ((-t) + (-1)))), (7, .int (iI (ee.natAbs : Int))), (5, .double (dM 1 (-1)))]) hx hb d_Ex_scaled_39 hl (k := 1) rfl (iI_add _ _) (by decide) rfl (fun ls hl => ?_)
        refine lv_goto (tgt := 27) hx hb d_Ex_scaled_42 (by decide) ?_
        exact ih (t + 1) ls (by omega) (by omega) (by rw [show (-(t + 1) : Int) = (-t) + (-1) by omega]; exact lv_sub hl [0, 2, 3, 1] rfl)
  exact L27 _ 0 ls (by omega) (n_lt _) (by rw [show (-0 : Int) = 0 by omega]; exact lv_sub hl [0, 1, 2, 3] rfl)
set_option maxHeartbeats 4000000 in
set_option maxRecDepth 100000 in
theorem c_Ex_scaled_p (l : Launch) (D : va_G) (aC : Nat → ClassId) (mt ee : Int) (hm : -9007199254740992 ≤ mt ∧ mt ≤ 9007199254740992) (he : -1074 ≤ ee ∧ ee ≤ 971) (h971 : ee = 971 → -9007199254740992 < mt ∧ mt < 9007199254740992) (hs : 0 ≤ ee) : CR l D aC y_Ex_scaled (rd 1 20) [.long (lI mt), .int (iI ee)] [] (fun v => v = some (.double (dM mt ee))) := by
  refine CR.of (cc := b_Ex_scaled) (maxL := 9) (ret := (some .double)) (by decide +kernel) k_Ex_scaled (Nat.le_of_ble_eq_true rfl) ?_
  intro p e s m below meth c Q S hr hlocks hQ hK hN hP ls hl
  obtain ⟨hx, hb, hml, hown, hts⟩ := id S
  have hl : lv_has ls 9 [(0, .long (lI mt)), (2, .int (iI ee))] := hl
  refine lv_lload_n hx hb d_Ex_scaled_0 rfl (lv_at hl 0 rfl) ?_
  refine x_l2d hx hb d_Ex_scaled_1 (by omega) ?_
  refine lv_dstore_n (lv' := [(3, .double (dM mt 0)), (0, .long (lI mt)), (2, .int (iI ee))]) hx hb d_Ex_scaled_2 rfl hl (by decide) rfl (fun ls hl => ?_)
  refine lv_iload_n hx hb d_Ex_scaled_3 rfl (lv_at hl 2 rfl) ?_
  refine x_if_ge (tgt := 13) hx hb d_Ex_scaled_4 (by decide) (by omega) (fun c_4 => ?_) (fun c_4 => (by exfalso; omega))
  refine x_ldc2d hx hb 1 1 (by decide +kernel) hown (hts _ wk_Ex_94) d_Ex_scaled_13 ?_
  refine lv_dstore (lv' := [(5, .double (dM 1 1)), (3, .double (dM mt 0)), (0, .long (lI mt)), (2, .int (iI ee))]) hx hb d_Ex_scaled_16 hl (by decide) rfl (fun ls hl => ?_)
  refine lv_iload_n hx hb d_Ex_scaled_18 rfl (lv_at hl 3 rfl) ?_
  refine y_callS1 (V := .int (iI (ee.natAbs : Int))) S (c_absI l D aC ee (by omega)) t_Ex_96 (rm_ok (by decide) (by decide)) hK hN hP [] rfl rfl hl.1 rfl (Nat.le_of_ble_eq_true rfl) d_Ex_scaled_19 ⟨Nat.zero_le _, Nat.zero_le _⟩ ?_
  refine lv_istore (lv' := [(7, .int (iI (ee.natAbs : Int))), (5, .double (dM 1 1)), (3, .double (dM mt 0)), (0, .long (lI mt)), (2, .int (iI ee))]) hx hb d_Ex_scaled_22 hl (by decide) rfl (fun ls hl => ?_)
  refine lv_iconst (v := iI 0) hx hb d_Ex_scaled_24 rfl ?_
  refine lv_istore (lv' := [(8, .int (iI 0)), (7, .int (iI (ee.natAbs : Int))), (5, .double (dM 1 1)), (3, .double (dM mt 0)), (0, .long (lI mt)), (2, .int (iI ee))]) hx hb d_Ex_scaled_25 hl (by decide) rfl (fun ls hl => ?_)
  have L27 : ∀ (nn : Nat) (t : Int) (ls : Array Slot), (0 ≤ t ∧ t ≤ (ee.natAbs : Int)) → (ee.natAbs : Int) - t < (nn : Int) → lv_has ls 9 [(8, .int (iI t)), (7, .int (iI (ee.natAbs : Int))), (5, .double (dM 1 1)), (3, .double (dM mt t))] → W p l e (rd 1 20) s m ([.long (lI mt), .int (iI ee)]).toArray below meth c s.heap [] 0 0 Q (F0 m 27 ls []) := by
    intro nn
    induction nn with
    | zero => intro t ls ht hnn; exact absurd hnn (by omega)
    | succ nn ih =>
      intro t ls ht hnn hl
      refine lv_iload hx hb d_Ex_scaled_27 (lv_at hl 0 rfl) ?_
      refine lv_iload hx hb d_Ex_scaled_29 (lv_at hl 1 rfl) ?_
      refine x_icmp_ge (tgt := 45) hx hb d_Ex_scaled_31 (by decide) (by omega) (by omega) (fun c_31 => ?_) (fun c_31 => ?_)
      · refine lv_dload_n hx hb d_Ex_scaled_45 rfl (lv_at hl 3 rfl) ?_
        exact y_dret hx hb hr hlocks hQ (by rw [show t = ee by omega]) d_Ex_scaled_46
      · refine lv_dload_n hx hb d_Ex_scaled_34 rfl (lv_at hl 3 rfl) ?_
        refine lv_dload hx hb d_Ex_scaled_35 (lv_at hl 2 rfl) ?_
        refine x_dmul1 hx hb d_Ex_scaled_37 (by unfold dOk; omega) (by unfold dOk; omega) (by unfold dOk; omega) ?_
        refine lv_dstore_n (lv' := [(3, .double (dM mt (t + 1))), (8, .int (iI t)), (7, .int (iI (ee.natAbs : Int))), (5, .double (dM 1 1))]) hx hb d_Ex_scaled_38 rfl hl (by decide) rfl (fun ls hl => ?_)
        refine lv_iinc (v := iI (t + 1)) (lv' := [(8, .int (iI (t + 1))), (3, .double (dM mt (t + 1))), (7, .int (iI (ee.natAbs : Int))), (5, .double (dM 1 1))]) hx hb d_Ex_scaled_39 hl (k := 1) rfl (iI_add _ _) (by decide) rfl (fun ls hl => ?_)
        refine lv_goto (tgt := 27) hx hb d_Ex_scaled_42 (by decide) ?_
        exact ih (t + 1) ls (by omega) (by omega) (lv_sub hl [0, 2, 3, 1] rfl)
  exact L27 _ 0 ls (by omega) (n_lt _) (lv_sub hl [0, 1, 2, 3] rfl)
theorem c_Ex_scaled (l : Launch) (D : va_G) (aC : Nat → ClassId) (mt ee : Int) (hm : -9007199254740992 ≤ mt ∧ mt ≤ 9007199254740992) (he : -1074 ≤ ee ∧ ee ≤ 971) (h971 : ee = 971 → -9007199254740992 < mt ∧ mt < 9007199254740992) : CR l D aC y_Ex_scaled (rd 1 20) [.long (lI mt), .int (iI ee)] [] (fun v => v = some (.double (dM mt ee))) := by
  rcases (show ee < 0 ∨ 0 ≤ ee by omega) with h | h
  · exact c_Ex_scaled_n l D aC mt ee hm he h971 h
  · exact c_Ex_scaled_p l D aC mt ee hm he h971 h
