/-! THE CLAIM OUT OF ONE WALK OF THE LAW'S BODY. Your part is whole_start (and what it stands on); all else here is the same for every law, but numbers. -/
def R_law : String := "CertificateDeskLaw"
def lw_P (b : Addr) (xs : List Int32) (args : Array Value) (s : State) : Prop := args = #[.ref b] ∧ s.IntsAt b xs ∧ xs.length ≤ 2560 ∧ (Jvm.Cond.and given_1 narrow_1).before args s = true
def lw_Q (_ : Array Value) (s : State) (o : Outcome) (t : State) : Prop := o = .returned (some (.int 1)) ∧ Framed s o t [] 601024 7293034
def lw_Z (below : List Frame) (a : Array Value) (s : State) : State → Prop := fun t => ∃ o, t.status = .running ∧ Ended t below o ∧ lw_Q a s o t
/-- the law's own end, with 1 on the stack, nothing written that was there before, its room as the claim has it -/
theorem lw_ret {p : Program} {l : Launch} {e : Env} {s : State} {m : MethodId} {below : List Frame} {meth : Method} {c : Code} {b : Nat} (hx : p.tables.exec = Jvm.exec) (hb : c.code = code) (hr : meth.sig.returnType = ret) (hlocks : meth.locks = false) {pc : Nat} {H : Heap} {ls : Array Slot} (hdg : decode code pc = .ok (.ireturn, 1)) : W p l e room_1 s m #[Value.ref b] below meth c H [] 601024 7293034 (lw_Z below #[Value.ref b] s) (F0 m pc ls [.int 1]) := by
  intro T hT X
  obtain ⟨fs, hret, hrun, hended, hW, hframe⟩ := X.leave (v := some (.int 1)) (hlocks := hlocks) (fun h => by rw [hr] at h; cases h)
  have hmeth' : T.vm.method? m = some meth := X.method'
  refine ⟨T.setFrames fs, ?_, .returned (some (.int 1)), hrun, hended, rfl, ⟨_, rfl⟩, hW, hframe⟩
  jvm_step X.here [X.here.top, hx, hb, hdg, hmeth', hr, ret, narrow_b1]
  (try refine ⟨rfl, ?_⟩); (try refine ⟨rfl, ?_⟩)
  first | (intro acts; rw [hret _ acts rfl rfl rfl]) | rw [hret _ _ rfl rfl rfl]
  exact Steps.refl _
/-- what holds at the law's entry: the machine, the code, the tables' words (any of lw_tbl by 'hts w (by decide +kernel)'), the script of L ints xs at the cell b, what the Statement gives of the start (any of its parts by flat_of_before) -/
def lw_At (p : Program) (s : State) (m : MethodId) (meth : Method) (c : Code) (b L : Nat) (xs : Nat → Int32) : Prop :=
  p.tables.exec = Jvm.exec ∧ c.code = code ∧ meth.sig.returnType = ret ∧ c.maxLocals = 9 ∧ s.vm.findClass R_law = some m.cls ∧ (∀ w ∈ lw_tbl, w.before #[Value.ref b] s = true) ∧ va_X b L xs s s.heap ∧ b < s.heap.size ∧ meth.locks = false ∧ (Jvm.Cond.and given_1 narrow_1).before #[Value.ref b] s = true

set_option maxHeartbeats 1000000 in
set_option maxRecDepth 100000 in
theorem law_head {p : Program} {l : Launch} {e : Env} {s : State} {m : MethodId} {below : List Frame} {meth : Method} {c : Code} {D : va_G} {aC : Nat → ClassId} {sa : Nat → Nat} {a b : Nat → Nat} {ou od sb L : Nat} {xs : Nat → Int32} {Q : State → Prop} (C0 : LC p l s m meth c D aC sa sb L xs) {i : Int} {n1 n2 : Nat} (hi : 0 ≤ i ∧ i + 5 ≤ (L : Int)) (hn1 : n1 + 2 ≤ 601024) (hn2 : n2 + 12 ≤ 7293034) (kk : LK p l e s m below meth c D aC a b ou od sb Q i 841 (n1 + 2) (n2 + 12)) : LK p l e s m below meth c D aC a b ou od sb Q i 37 n1 n2 := by
  intro d M pd px pn fd mt ee gd mu eu er p2 f f1 f2 f3 f4 f5 z o1 o2 H locs ls hd hM hR hP hD hS hl
  obtain ⟨S, hXs, hbl, hL9, hst, hK, hN, hX, hNC⟩ := id C0
  obtain ⟨hx, hb, hml, hown, hts⟩ := id S
  have hbA : ¬ (fun q : Nat => s.heap.size ≤ q) sb := Nat.not_le.mpr hbl
  refine lv_aload_n hx hb d_La_law_37 rfl (lv_at hl 5 rfl) ?_
  refine lv_iload hx hb d_La_law_38 (lv_at hl 0 rfl) ?_
  refine x_sld hx hb hXs hbl hbA hS (by omega) (by omega) d_La_law_40 ?_
  refine lv_bipush (v := iI 15) hx hb d_La_law_41 (by decide +kernel) ?_
  refine x_iand (v := (sc xs i % 16)) hx hb d_La_law_43 (iI_m4 _) ?_
  rcases (show sc xs i % 16 = 0 ∨ sc xs i % 16 = 1 ∨ sc xs i % 16 = 2 ∨ sc xs i % 16 = 3 ∨ sc xs i % 16 = 4 ∨ sc xs i % 16 = 5 ∨ sc xs i % 16 = 6 ∨ sc xs i % 16 = 7 ∨ sc xs i % 16 = 8 ∨ sc xs i % 16 = 9 ∨ sc xs i % 16 = 10 ∨ sc xs i % 16 = 11 ∨ sc xs i % 16 = 12 ∨ sc xs i % 16 = 13 ∨ sc xs i % 16 = 14 ∨ sc xs i % 16 = 15 by omega) with h | h | h | h | h | h | h | h | h | h | h | h | h | h | h | h
  · refine x_top _ 0 h ?_
    refine lv_tableIn (off := 52) (tgt := 96) hx hb d_La_law_44 (by decide +kernel) (by decide +kernel) (by decide +kernel) (by decide) ?_
    exact law_0 C0 hi hn1 hn2 kk d M pd px pn fd mt ee gd mu eu er p2 f f1 f2 f3 f4 f5 z o1 o2 H locs ls hd hM hR hP hD hS hl
  · refine x_top _ 1 h ?_
    refine lv_tableIn (off := 98) (tgt := 142) hx hb d_La_law_44 (by decide +kernel) (by decide +kernel) (by decide +kernel) (by decide) ?_
    exact law_1 C0 hi hn1 hn2 kk d M pd px pn fd mt ee gd mu eu er p2 f f1 f2 f3 f4 f5 z o1 o2 H locs ls hd hM hR hP hD hS hl
  · refine x_top _ 2 h ?_
    refine lv_tableIn (off := 198) (tgt := 242) hx hb d_La_law_44 (by decide +kernel) (by decide +kernel) (by decide +kernel) (by decide) ?_
    exact law_2 C0 hi hn1 hn2 kk d M pd px pn fd mt ee gd mu eu er p2 f f1 f2 f3 f4 f5 z o1 o2 H locs ls hd hM hR hP hD hS hl
  · refine x_top _ 3 h ?_
    refine lv_tableIn (off := 320) (tgt := 364) hx hb d_La_law_44 (by decide +kernel) (by decide +kernel) (by decide +kernel) (by decide) ?_
    exact law_3 C0 hi hn1 hn2 kk d M pd px pn fd mt ee gd mu eu er p2 f f1 f2 f3 f4 f5 z o1 o2 H locs ls hd hM hR hP hD hS hl
  · refine x_top _ 4 h ?_
    refine lv_tableIn (off := 410) (tgt := 454) hx hb d_La_law_44 (by decide +kernel) (by decide +kernel) (by decide +kernel) (by decide) ?_
    exact law_4 C0 hi hn1 hn2 kk d M pd px pn fd mt ee gd mu eu er p2 f f1 f2 f3 f4 f5 z o1 o2 H locs ls hd hM hR hP hD hS hl
  · refine x_top _ 5 h ?_
    refine lv_tableIn (off := 500) (tgt := 544) hx hb d_La_law_44 (by decide +kernel) (by decide +kernel) (by decide +kernel) (by decide) ?_
    exact law_5 C0 hi hn1 hn2 kk d M pd px pn fd mt ee gd mu eu er p2 f f1 f2 f3 f4 f5 z o1 o2 H locs ls hd hM hR hP hD hS hl
  · refine x_top _ 6 h ?_
    refine lv_tableIn (off := 570) (tgt := 614) hx hb d_La_law_44 (by decide +kernel) (by decide +kernel) (by decide +kernel) (by decide) ?_
    exact law_6 C0 hi hn1 hn2 kk d M pd px pn fd mt ee gd mu eu er p2 f f1 f2 f3 f4 f5 z o1 o2 H locs ls hd hM hR hP hD hS hl
  · refine x_top _ 7 h ?_
    refine lv_tableIn (off := 640) (tgt := 684) hx hb d_La_law_44 (by decide +kernel) (by decide +kernel) (by decide +kernel) (by decide) ?_
    exact law_7 C0 hi hn1 hn2 kk d M pd px pn fd mt ee gd mu eu er p2 f f1 f2 f3 f4 f5 z o1 o2 H locs ls hd hM hR hP hD hS hl
  · refine x_top _ 8 h ?_
    refine lv_tableIn (off := 729) (tgt := 773) hx hb d_La_law_44 (by decide +kernel) (by decide +kernel) (by decide +kernel) (by decide) ?_
    exact law_8 C0 hi hn1 hn2 kk d M pd px pn fd mt ee gd mu eu er p2 f f1 f2 f3 f4 f5 z o1 o2 H locs ls hd hM hR hP hD hS hl
  · refine x_top _ 9 h ?_
    refine lv_tableOut (tgt := 841) hx hb d_La_law_44 (by decide +kernel) (by decide) ?_
    refine W.widen (k := n1 + 2) (n := n2 + 12) (by omega) (by omega) ?_
    exact kk d M pd px pn fd mt ee gd mu eu er p2 f f1 f2 f3 f4 f5 z o1 o2 H locs ls hd hM hR hP hD hS hl
  · refine x_top _ 10 h ?_
    refine lv_tableOut (tgt := 841) hx hb d_La_law_44 (by decide +kernel) (by decide) ?_
    refine W.widen (k := n1 + 2) (n := n2 + 12) (by omega) (by omega) ?_
    exact kk d M pd px pn fd mt ee gd mu eu er p2 f f1 f2 f3 f4 f5 z o1 o2 H locs ls hd hM hR hP hD hS hl
  · refine x_top _ 11 h ?_
    refine lv_tableOut (tgt := 841) hx hb d_La_law_44 (by decide +kernel) (by decide) ?_
    refine W.widen (k := n1 + 2) (n := n2 + 12) (by omega) (by omega) ?_
    exact kk d M pd px pn fd mt ee gd mu eu er p2 f f1 f2 f3 f4 f5 z o1 o2 H locs ls hd hM hR hP hD hS hl
  · refine x_top _ 12 h ?_
    refine lv_tableOut (tgt := 841) hx hb d_La_law_44 (by decide +kernel) (by decide) ?_
    refine W.widen (k := n1 + 2) (n := n2 + 12) (by omega) (by omega) ?_
    exact kk d M pd px pn fd mt ee gd mu eu er p2 f f1 f2 f3 f4 f5 z o1 o2 H locs ls hd hM hR hP hD hS hl
  · refine x_top _ 13 h ?_
    refine lv_tableOut (tgt := 841) hx hb d_La_law_44 (by decide +kernel) (by decide) ?_
    refine W.widen (k := n1 + 2) (n := n2 + 12) (by omega) (by omega) ?_
    exact kk d M pd px pn fd mt ee gd mu eu er p2 f f1 f2 f3 f4 f5 z o1 o2 H locs ls hd hM hR hP hD hS hl
  · refine x_top _ 14 h ?_
    refine lv_tableOut (tgt := 841) hx hb d_La_law_44 (by decide +kernel) (by decide) ?_
    refine W.widen (k := n1 + 2) (n := n2 + 12) (by omega) (by omega) ?_
    exact kk d M pd px pn fd mt ee gd mu eu er p2 f f1 f2 f3 f4 f5 z o1 o2 H locs ls hd hM hR hP hD hS hl
  · refine x_top _ 15 h ?_
    refine lv_tableOut (tgt := 841) hx hb d_La_law_44 (by decide +kernel) (by decide) ?_
    refine W.widen (k := n1 + 2) (n := n2 + 12) (by omega) (by omega) ?_
    exact kk d M pd px pn fd mt ee gd mu eu er p2 f f1 f2 f3 f4 f5 z o1 o2 H locs ls hd hM hR hP hD hS hl
set_option maxHeartbeats 1000000 in
set_option maxRecDepth 100000 in
theorem law_loop {p : Program} {l : Launch} {e : Env} {s : State} {m : MethodId} {below : List Frame} {meth : Method} {c : Code} {D : va_G} {aC : Nat → ClassId} {sa : Nat → Nat} {a b : Nat → Nat} {ou od sb L : Nat} {xs : Nat → Int32} (C0 : LC p l s m meth c D aC sa sb L xs) (hr : meth.sig.returnType = ret) (hlocks : meth.locks = false) : ∀ (n t : Nat), t ≤ 512 → (L : Int) < 5 * (t : Int) + 5 * (n : Int) → LK p l e s m below meth c D aC a b ou od sb (lw_Z below #[Value.ref sb] s) (5 * (t : Int)) 28 (75 + 2 * t) (9124 + 12 * t) := by
  obtain ⟨S, hXs, hbl, hL9, hst, hK, hN, hX, hNC⟩ := id C0
  obtain ⟨hx, hb, hml, hown, hts⟩ := id S
  have hbA : ¬ (fun q : Nat => s.heap.size ≤ q) sb := Nat.not_le.mpr hbl
  intro n
  induction n with
  | zero =>
    intro t ht h0 d M pd px pn fd mt ee gd mu eu er p2 f f1 f2 f3 f4 f5 z o1 o2 H locs ls hd hM hR hP hD hS hl
    refine lv_iload hx hb d_La_law_28 (lv_at hl 0 rfl) ?_
    refine lv_aload_n hx hb d_La_law_30 rfl (lv_at hl 5 rfl) ?_
    refine x_slen hx hb hXs hbl hbA hS d_La_law_31 ?_
    refine lv_iconst (v := iI 5) hx hb d_La_law_32 rfl ?_
    refine x_isub hx hb d_La_law_33 ?_
    refine x_icmp_gt (tgt := 847) hx hb d_La_law_34 (by decide) (by omega) (by omega) (fun c_34 => ?_) (fun c_34 => ?_)
    · refine lv_iconst (v := 1) hx hb d_La_law_847 (by decide) ?_
      refine va_forget (fun q hq => hS.2.2 q hq) ?_
      refine W.widen (k := 601024) (n := 7293034) (by omega) (by omega) ?_
      exact lw_ret hx hb hr hlocks d_La_law_848
    · exact absurd h0 (by omega)
  | succ n ih =>
    intro t ht h0 d M pd px pn fd mt ee gd mu eu er p2 f f1 f2 f3 f4 f5 z o1 o2 H locs ls hd hM hR hP hD hS hl
    refine lv_iload hx hb d_La_law_28 (lv_at hl 0 rfl) ?_
    refine lv_aload_n hx hb d_La_law_30 rfl (lv_at hl 5 rfl) ?_
    refine x_slen hx hb hXs hbl hbA hS d_La_law_31 ?_
    refine lv_iconst (v := iI 5) hx hb d_La_law_32 rfl ?_
    refine x_isub hx hb d_La_law_33 ?_
    refine x_icmp_gt (tgt := 847) hx hb d_La_law_34 (by decide) (by omega) (by omega) (fun c_34 => ?_) (fun c_34 => ?_)
    · refine lv_iconst (v := 1) hx hb d_La_law_847 (by decide) ?_
      refine va_forget (fun q hq => hS.2.2 q hq) ?_
      refine W.widen (k := 601024) (n := 7293034) (by omega) (by omega) ?_
      exact lw_ret hx hb hr hlocks d_La_law_848
    · have kk : LK p l e s m below meth c D aC a b ou od sb (lw_Z below #[Value.ref sb] s) (5 * (t : Int)) 841 (75 + 2 * t + 2) (9124 + 12 * t + 12) := by
        intro d M pd px pn fd mt ee gd mu eu er p2 f f1 f2 f3 f4 f5 z o1 o2 H locs ls hd hM hR hP hD hS hl
        refine lv_iinc (v := iI (5 * (t : Int) + 5)) (lv' := [(5, .int (iI (5 * (t : Int) + 5))), (4, .ref od), (3, .ref ou), (2, .ref (b 0)), (1, .ref (a 0)), (0, .ref sb)]) hx hb d_La_law_841 hl (k := 0) rfl (iI_add _ _) (by decide) rfl (fun ls hl => ?_)
        refine lv_goto (tgt := 28) hx hb d_La_law_844 (by decide) ?_
        have h9 := ih (t + 1) (by omega) (by omega)
        rw [show 5 * ((t + 1 : Nat) : Int) = 5 * (t : Int) + 5 by omega, show 75 + 2 * (t + 1) = 75 + 2 * t + 2 by omega, show 9124 + 12 * (t + 1) = 9124 + 12 * t + 12 by omega] at h9
        exact h9 d M pd px pn fd mt ee gd mu eu er p2 f f1 f2 f3 f4 f5 z o1 o2 H locs ls hd hM hR hP hD hS hl
      exact law_head C0 (by omega) (by omega) (by omega) kk d M pd px pn fd mt ee gd mu eu er p2 f f1 f2 f3 f4 f5 z o1 o2 H locs ls hd hM hR hP hD hS hl
theorem nr_1 : ∀ q ∈ NCL, ∀ (A : Array Value) (s : State), (Jvm.Cond.and given_1 narrow_1).before A s = true → va_Nc q.1 q.2 s := by
  intro q hq A s h
  have hs := flat_of_before _ h
  simp only [NCL, List.mem_cons, List.not_mem_nil, or_false] at hq
  rcases hq with rfl | rfl | rfl | rfl | rfl
  · exact va_Nc.of (hs (.not (.castable "java/lang/IndexOutOfBoundsException" "java/lang/IllegalArgumentException")) (by decide +kernel))
  · exact va_Nc.of (hs (.not (.castable "java/lang/IllegalStateException" "java/lang/IllegalArgumentException")) (by decide +kernel))
  · exact va_Nc.of (hs (.not (.castable "java/lang/IndexOutOfBoundsException" "java/lang/IllegalStateException")) (by decide +kernel))
  · exact va_Nc.of (hs (.not (.castable "java/lang/ArithmeticException" "java/lang/IllegalArgumentException")) (by decide +kernel))
  · exact va_Nc.of (hs (.not (.castable "java/lang/ArithmeticException" "java/lang/IndexOutOfBoundsException")) (by decide +kernel))
