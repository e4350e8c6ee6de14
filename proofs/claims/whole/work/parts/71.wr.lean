/-! the law's own methods, that catch -/
def NCL : List (String × String) := [("java/lang/IndexOutOfBoundsException", "java/lang/IllegalArgumentException"), ("java/lang/IllegalStateException", "java/lang/IllegalArgumentException"), ("java/lang/IndexOutOfBoundsException", "java/lang/IllegalStateException"), ("java/lang/ArithmeticException", "java/lang/IllegalArgumentException"), ("java/lang/ArithmeticException", "java/lang/IndexOutOfBoundsException")]
def NC (U : State) : Prop := ∀ q ∈ NCL, va_Nc q.1 q.2 U
theorem NC.moved {u U : State} (hvm : u.vm.Alike U.vm) (h : NC u) : NC U := fun q hq => (h q hq).moved hvm
def wP (D : va_G) (aC : Nat → ClassId) (sa : Nat → Nat) (av : List Value) (wc : va_W) : Array Value → State → Prop := va_Pc av (fun U => va_P D CL wc U.heap ∧ va_K D CL (TY aC) U ∧ NW U ∧ va_D (fun _ => True) wc ∧ XE sa (aW wc) U ∧ NC U)
theorem wP_blind {D : va_G} {aC : Nat → ClassId} {sa : Nat → Nat} {av : List Value} {wc : va_W} : FrameBlind (wP D aC sa av wc) := fun a U g mk q => by
  obtain ⟨q0, qP, qK, qN, qD, qX, qC⟩ := q
  exact ⟨q0, qP, va_K.moved (u := U) (U := U.calling g mk a) (Vm.Alike.refl U.vm) qK, qN.calling g mk a, qD, qX.calling g mk a, qC.moved (u := U) (U := U.calling g mk a) (Vm.Alike.refl U.vm)⟩
/-- a static method with handlers, that throws nothing -/
def WT (l : Launch) (D : va_G) (aC : Nat → ClassId) (sa : Nat → Nat) (y : MethodName) (rm : Room) (mc ms : Nat) (av : List Value) (wc : va_W) (post : Option Value → va_W → Prop) : Prop := Met l y TB rm (wP D aC sa av wc) (cQ D wc post) mc ms (aW wc)
theorem WT.of {l : Launch} {D : va_G} {aC : Nat → ClassId} {sa : Nat → Nat} {y : MethodName} {rm : Room} {mc ms : Nat} {av : List Value} {wc : va_W} {post : Option Value → va_W → Prop} {cc : ByteArray} {maxL : Nat} {ret : Option FieldType} {hh : List (Nat × Nat × Nat × Nat)}
    (hy : plainFor y = true) (hw : Cond.codeWith y cc maxL ret hh ∈ TB) (hlen : (lg_sl av).length ≤ maxL)
    (body : ∀ (p : Program) (e : Env) (s : State) (m : MethodId) (below : List Frame) (meth : Method) (c : Code) (Q : State → Prop), CallFix p m c cc maxL s av.toArray TB y.cls → meth.sig.returnType = ret → meth.locks = false → c.exceptionTable.toList = tableOf hh →
      (∀ t, MQ below (cQ D wc post) av.toArray s mc ms (aW wc) t → Q t) → va_K D CL (TY aC) s → NW s → XE sa (aW wc) s → NC s → va_P D CL wc s.heap → va_D (aW wc) wc → va_S (aW wc) s.heap s.heap [] →
      ∀ ls : Array Slot, lv_has ls maxL (lv_args 0 av) → W p l e rm s m av.toArray below meth c s.heap [] 0 0 Q (F0 m 0 ls [])) : WT l D aC sa y rm mc ms av wc post := by
  show Met l y TB rm (wP D aC sa av wc) (cQ D wc post) mc ms (aW wc)
  refine MetFree.of_bodySF (code := cc) (maxLocals := maxL) (ret := ret) hy ?_ ?_
  · intro args s m h hn
    obtain ⟨m9, meth, c, hn9, h1, h2, h3, h4, -, h5, h6, -⟩ := Cond.codeWith_spec (atoms_spec (ws := TB) h _ hw)
    cases hn.symm.trans hn9
    exact ⟨meth, c, h1, h2, h3, h4, h5, h6⟩
  · intro p e s m args below meth c s₁ B hml hv _
    have hh0 : s₁.heap = s.heap := by rw [B.state]; rfl
    have ht := vx_table (x := y) B (atoms_spec (ws := TB) B.pre _ hw)
    obtain ⟨rfl, hP, hK, hN, hD, hX, hC⟩ := hv
    have hl := lv_entry av (n := maxL) hlen
    have K := body p e s m below meth c _ ⟨B.exec, B.bytes, hml, findClass_of_methodNamed B.named, atoms_spec (ws := TB) B.pre⟩ B.returns B.notSynchronized ht (fun _ h => h) hK hN hX hC hP ⟨hD.1, fun k q hk => ⟨k, q.2, hk⟩⟩ va_S.rf _ hl
    rw [← lg_entry_eq] at K
    obtain ⟨t, a1, o, b1, b2, b3⟩ := K s₁ hh0 (Stand.of_body B)
    exact ⟨t, o, a1, b1, b2, ⟨b3.1, b3.2⟩⟩
def LW (own : String) (index : Nat) (y : MethodName) (bytes : ByteArray) (maxL : Nat) (ret : Option FieldType) (hh : List (Nat × Nat × Nat × Nat)) (n : Nat) : Prop :=
  Cond.codeWith y bytes maxL ret hh ∈ TB ∧ Cond.initialized y.cls ∈ TB ∧ (y.cls ≠ "java/lang/invoke/MethodHandle" ∧ y.cls ≠ "java/lang/invoke/VarHandle") ∧ (parseMethodDescriptor y.desc).map (fun d => d.parameters.length) = some n ∧ Cond.methodLink own index y ∈ TB ∧ Cond.static y ∈ TB
section XW
variable {p : Program} {l : Launch} {e : Env} {R : Room} {s : State} {m : MethodId} {args : Array Value} {below : List Frame} {meth : Method} {c : Code} {H : Heap} {locs : List Loc} {cells slots : Nat} {Q : State → Prop}
variable {cc bytes : ByteArray} {pc nL maxL index n mc ms mc1 ms1 : Nat} {ls : Array Slot} {rest st0 As : List Value} {D : va_G} {A : Nat → Prop} {b : Nat} {aC : Nat → ClassId} {sa : Nat → Nat} {ws wc wc1 : va_W} {own : String} {y : MethodName} {ret : Option FieldType} {rm : Room} {post post1 : Option Value → va_W → Prop} {xp1 : String → va_W → Prop} {hh : List (Nat × Nat × Nat × Nat)}
theorem xw_iret {v : Int32} (hx : p.tables.exec = Jvm.exec) (hb : c.code = cc) (hr : meth.sig.returnType = some .int) (hlocks : meth.locks = false) (hQ : ∀ t, MQ below (cQ D wc post) args s mc ms (aW wc) t → Q t) (hc : cells ≤ mc ∧ slots ≤ ms) {w1 : va_W} (hp : post (some (.int v)) w1) (ha : w1.map Prod.fst = wc.map Prod.fst) (hP : va_P D CL w1 H) (hS : va_S (aW wc) s.heap H locs) (hdg : decode cc pc = .ok (.ireturn, 1)) : W p l e R s m args below meth c H locs cells slots Q (F0 m pc ls [.int v]) :=
  W.widen hc.1 hc.2 (W.weak hQ (W.iret (Qc := cQ D wc post) (free := aW wc) hx hb hr (fun t ht _ => ⟨⟨_, w1, rfl, hp, ha, by rw [ht]; exact hP⟩, hS.F ht⟩) hS.2.2 hdg hlocks))
/-- a call that may throw, where handlers stand -/
theorem x_callVH (S : CallFix p m c cc nL s args TB own) (hM : XT l D aC sa y rm mc1 ms1 (.ref b :: As) wc1 post1 xp1) (hw : VW own index y bytes maxL ret n) (hR : RX R rm maxL mc1 ms1) (hK : va_K D CL (TY aC) s) (hN : NW s) (hX : XE sa A s) (hP : va_P D CL ws H) (hD : va_D A ws) (hS : va_S A s.heap H locs) (isC : List Nat) (hC : isC.map (fun i => ws[i]?) = wc1.map some) (hnd : va_nd isC = true)
    (q0 ci : Nat) {fs : List Value} {T : u_T} {N : Nat} (hq : wc1[q0]? = some (b, .inr (ci, fs))) (hc : CL[ci]? = some (y.cls, T, N)) (hn : As.length = n) (hls : ls.size = nL) (hst : st0 = As.reverse ++ .ref b :: rest) (hrest : (rest.map fun v => v.category).sum ≤ 8) (hdg : decode cc pc = .ok (.invokevirtual index, 3)) (hcs : cells + mc1 ≤ R.cells ∧ slots + ms1 ≤ R.slots)
    (kk : ∀ (v : Option Value) (w1 : va_W) (H1 : Heap) (locs1 : List Loc), post1 v w1 → va_P D CL (va_sets ws isC w1) H1 → va_D A (va_sets ws isC w1) → va_S A s.heap H1 locs1 → W p l e R s m args below meth c H1 locs1 (cells + mc1) (slots + ms1) Q (F0 m (pc + 3) ls (v.toList ++ rest)))
    (kx : ∀ (E : String) (w1 : va_W) (q : Nat) (ce : Cell) (H1 : Heap) (locs1 : List Loc), xp1 E w1 → va_P D CL (va_sets ws isC w1) H1 → va_D A (va_sets ws isC w1) → va_S A s.heap H1 locs1 → H1[q]? = some ce → ce.vm = .none → s.vm.findClass E = some ce.cls → vx_W p l e R s m args below meth c H1 locs1 (cells + mc1) (slots + ms1) Q (F0 m pc ls rest) q) : W p l e R s m args below meth c H locs cells slots Q (F0 m pc ls st0) := by
  obtain ⟨h1, h2, h3, h4, h5, h6, h7⟩ := hw
  have hPc := va_P_at hP hC
  have hDc := va_D_at hD hC hnd
  have hin := aW_in hD hC
  have hr := vx_runV (C := y.cls) S hM ⟨callB_x S.2.2.2.2 hR h1 h2 h3 h4 h5, S.2.2.2.2 _ h6, S.2.2.2.2 _ h7⟩ ⟨xP_blind, va_recv hK hPc hc hq, fun U hU hW => ⟨rfl, by rw [hU]; exact hPc, va_K.moved hW.alike hK, hN.warm hW, hDc, hX.to hW (by rw [hU]; exact hS) hin⟩⟩ (g := F0 m pc ls st0) (e := e) (below := below) (meth := meth) (locs := locs) (cells := cells) (slots := slots) rfl hn hls hst (lv_room hrest) hdg hcs
  have hSn : ∀ (st₀ t T' : State) (L : List Loc), st₀.heap = H → T'.heap = t.heap → (∀ q ∈ L, aW wc1 q.base) → va_F (aW wc1) st₀ t → va_S A s.heap T'.heap (locs ++ L) := fun st₀ t T' L h0 e1 hL hF => by
    obtain ⟨hz, hk⟩ := hF
    rw [h0] at hz hk
    exact ⟨Nat.le_trans hS.1 (by rw [e1]; exact hz), fun q h1 h2 => by rw [e1, hk q (Nat.lt_of_lt_of_le h1 hS.1) (fun z => h2 (hin q z))]; exact hS.2.1 q h1 h2, fun q hq => by
      rcases List.mem_append.mp hq with h | h
      · exact hS.2.2 q h
      · exact hin _ (hL q h)⟩
  intro T hT X
  rcases hr T hT X with ⟨v, st₀, t, T', L, h0, X', hL, e1, e2, ⟨⟨v', w1, hv, hp, hm, hP1⟩, hF⟩, st⟩ | ⟨q, st₀, t, T', L, E, ce, h0, X', hL, e1, e2, ⟨w1, hp, hm, hP1, hF⟩, hce, hcv, hcl, st⟩
  · cases hv
    have hk : ∀ q : Nat, q < H.size → ¬ aW wc1 q → t.heap[q]? = H[q]? := by rw [← h0]; exact hF.2
    obtain ⟨hPn, hDn⟩ := va_back hP hD isC hC hm hk hP1
    obtain ⟨t2, a1, b1⟩ := kk v w1 T'.heap (locs ++ L) hp (by rw [e1]; exact hPn) hDn (hSn st₀ t T' L h0 e1 hL hF) T' rfl X'
    exact ⟨t2, st t2 a1, b1⟩
  · have hk : ∀ q : Nat, q < H.size → ¬ aW wc1 q → t.heap[q]? = H[q]? := by rw [← h0]; exact hF.2
    obtain ⟨hPn, hDn⟩ := va_back hP hD isC hC hm hk hP1
    obtain ⟨t2, a1, b1⟩ := kx E w1 q ce T'.heap (locs ++ L) hp (by rw [e1]; exact hPn) hDn (hSn st₀ t T' L h0 e1 hL hF) (by rw [e1]; exact hce) hcv hcl T' rfl X'
    exact ⟨t2, st.trans a1, b1⟩
/-- the same, where few of the cells change: they stand first -/
theorem x_callVHF (S : CallFix p m c cc nL s args TB own) (hM : XT l D aC sa y rm mc1 ms1 (.ref b :: As) wc1 post1 xp1) (hw : VW own index y bytes maxL ret n) (hR : RX R rm maxL mc1 ms1) (hK : va_K D CL (TY aC) s) (hN : NW s) (hX : XE sa A s) (hP : va_P D CL ws H) (hD : va_D A ws) (hS : va_S A s.heap H locs) (iP iF : List Nat) (hC : (iP ++ iF).map (fun i => ws[i]?) = wc1.map some) (hnd : va_nd (iP ++ iF) = true)
    (hk1 : ∀ v w, post1 v w → w.drop iP.length = wc1.drop iP.length ∧ iP.length ≤ w.length) (hk2 : ∀ E w, xp1 E w → w.drop iP.length = wc1.drop iP.length ∧ iP.length ≤ w.length) (q0 ci : Nat) {fs : List Value} {T : u_T} {N : Nat} (hq : wc1[q0]? = some (b, .inr (ci, fs))) (hc : CL[ci]? = some (y.cls, T, N)) (hn : As.length = n) (hls : ls.size = nL) (hst : st0 = As.reverse ++ .ref b :: rest) (hrest : (rest.map fun v => v.category).sum ≤ 8) (hdg : decode cc pc = .ok (.invokevirtual index, 3)) (hcs : cells + mc1 ≤ R.cells ∧ slots + ms1 ≤ R.slots)
    (kk : ∀ (v : Option Value) (w1 ws1 : va_W) (H1 : Heap) (locs1 : List Loc), ws1 = va_sets ws iP (w1.take iP.length) → post1 v w1 → va_P D CL ws1 H1 → va_D A ws1 → va_S A s.heap H1 locs1 → W p l e R s m args below meth c H1 locs1 (cells + mc1) (slots + ms1) Q (F0 m (pc + 3) ls (v.toList ++ rest)))
    (kx : ∀ (E : String) (w1 ws1 : va_W) (q : Nat) (ce : Cell) (H1 : Heap) (locs1 : List Loc), ws1 = va_sets ws iP (w1.take iP.length) → xp1 E w1 → va_P D CL ws1 H1 → va_D A ws1 → va_S A s.heap H1 locs1 → H1[q]? = some ce → ce.vm = .none → s.vm.findClass E = some ce.cls → vx_W p l e R s m args below meth c H1 locs1 (cells + mc1) (slots + ms1) Q (F0 m pc ls rest) q) : W p l e R s m args below meth c H locs cells slots Q (F0 m pc ls st0) :=
  x_callVH S hM hw hR hK hN hX hP hD hS (iP ++ iF) hC hnd q0 ci hq hc hn hls hst hrest hdg hcs (fun v w1 H1 locs1 hv h1 h2 h3 => by
    rw [sets_keep hC hnd (hk1 v w1 hv).1 (hk1 v w1 hv).2] at h1 h2
    exact kk v w1 _ H1 locs1 rfl hv h1 h2 h3) (fun E w1 q ce H1 locs1 hv h1 h2 h3 g1 g2 g3 => by
    rw [sets_keep hC hnd (hk2 E w1 hv).1 (hk2 E w1 hv).2] at h1 h2
    exact kx E w1 _ q ce H1 locs1 rfl hv h1 h2 h3 g1 g2 g3)
/-- the law calls one of its own methods -/
theorem x_callW (S : CallFix p m c cc nL s args TB own) (hM : WT l D aC sa y rm mc ms As wc post) (hw : LW own index y bytes maxL ret hh n) (hR : RX R rm maxL mc ms) (hK : va_K D CL (TY aC) s) (hN : NW s) (hX : XE sa A s) (hNC : NC s) (hP : va_P D CL ws H) (hD : va_D A ws) (hS : va_S A s.heap H locs) (iP iF : List Nat) (hC : (iP ++ iF).map (fun i => ws[i]?) = wc.map some) (hnd : va_nd (iP ++ iF) = true)
    (hkeep : ∀ v w, post v w → w.drop iP.length = wc.drop iP.length ∧ iP.length ≤ w.length) (hn : As.length = n) (hls : ls.size = nL) (hst : st0 = As.reverse ++ rest) (hrest : (rest.map fun v => v.category).sum ≤ 8) (hdg : decode cc pc = .ok (.invokestatic index, 3)) (hcs : cells + mc ≤ R.cells ∧ slots + ms ≤ R.slots)
    (kk : ∀ (v : Option Value) (w1 ws1 : va_W) (H1 : Heap) (locs1 : List Loc), ws1 = va_sets ws iP (w1.take iP.length) → post v w1 → va_P D CL ws1 H1 → va_D A ws1 → va_S A s.heap H1 locs1 → W p l e R s m args below meth c H1 locs1 (cells + mc) (slots + ms) Q (F0 m (pc + 3) ls (v.toList ++ rest))) : W p l e R s m args below meth c H locs cells slots Q (F0 m pc ls st0) := by
  obtain ⟨h1, h2, h3, h4, h5, h6⟩ := hw
  have hts := S.2.2.2.2
  have hPc := va_P_at hP hC
  have hDc := va_D_at hD hC hnd
  have hin := aW_in hD hC
  have hlen : ∀ sig, parseMethodDescriptor y.desc = some sig → n = sig.parameters.length := fun sig h => by
    rw [h] at h4
    exact (Option.some.inj h4).symm
  have hr := vx_runSW (hh := hh) (p := p) (e := e) (below := below) (meth := meth) (locs := locs) (cells := cells) (slots := slots) (g := F0 m pc ls st0) (H := H) S hM ⟨⟨hR.1, hR.2.1, hR.2.2.1, hR.2.2.2, pay_in hts TB_good, h1⟩, hts _ h1, hts _ h2, h3, hlen, hts _ h5, hts _ h6⟩ ⟨wP_blind, fun U hU hW => ⟨rfl, by rw [hU]; exact hPc, va_K.moved hW.alike hK, hN.warm hW, hDc, hX.to hW (by rw [hU]; exact hS) hin, hNC.moved hW.alike⟩⟩ rfl hn hls hst (lv_room hrest) hdg hcs
  intro T hT X
  obtain ⟨v, st₀, t, T', L, h0, X', hL, e1, e2, ⟨⟨v', w1, hv, hp, hm, hP1⟩, hz, hk⟩, st⟩ := hr T hT X
  cases hv
  rw [h0] at hz hk
  obtain ⟨hPn, hDn⟩ := va_back hP hD (iP ++ iF) hC hm hk hP1
  rw [sets_keep hC hnd (hkeep v w1 hp).1 (hkeep v w1 hp).2] at hPn hDn
  obtain ⟨t2, a1, b1⟩ := kk v w1 _ T'.heap (locs ++ L) rfl hp (by rw [e1]; exact hPn) hDn
    ⟨Nat.le_trans hS.1 (by rw [e1]; exact hz), fun q h1 h2 => by rw [e1, hk q (Nat.lt_of_lt_of_le h1 hS.1) (fun z => h2 (hin q z))]; exact hS.2.1 q h1 h2, fun q hq => by
      rcases List.mem_append.mp hq with h | h
      · exact hS.2.2 q h
      · exact hin _ (hL q h)⟩ T' rfl X'
  exact ⟨t2, st t2 a1, b1⟩
/-- one handler -/
theorem x_catch {E name : String} {ce : Cell} {q : Addr} (hown : s.vm.findClass own = some m.cls) (hts : ∀ w ∈ TB, w.before args s = true) (hX : ∀ w ∈ XL, va_Nw w s) (hNC : NC s) (pre : List ExceptionTableEntry) (x : ExceptionTableEntry) (suf : List ExceptionTableEntry) (hsplit : c.exceptionTable.toList = pre ++ x :: suf)
    (hpass : ∀ z ∈ pre, z.catchType ≠ 0 ∧ ∃ nm : String, Cond.classLink own z.catchType nm ∈ TB ∧ (E, nm) ∈ NCL) (hx : covers x pc = true) (h0 : x.catchType ≠ 0) (hlink : Cond.classLink own x.catchType name ∈ TB) (hcast : Cond.castable E name ∈ XL) (hcell : H[q]? = some ce) (hv : ce.vm = .none) (hcl : s.vm.findClass E = some ce.cls)
    (kk : W p l e R s m args below meth c H locs cells slots Q (F0 m x.handlerPc ls [.ref q])) : vx_W p l e R s m args below meth c H locs cells slots Q (F0 m pc ls rest) q :=
  vx_catch (args := args) hown pre x suf hsplit (fun z hz => Or.inr ⟨(hpass z hz).1, by obtain ⟨nm, h1, h2⟩ := (hpass z hz).2; exact ⟨nm, hts _ h1, hNC _ h2⟩⟩) hx h0 (hts _ hlink) (va_Nw.use rfl (hX _ hcast)) hcell hv hcl kk
end XW

theorem wx_13 : (Jvm.Cond.classLink "CertificateDeskLaw" (13 : Nat) "java/lang/IllegalArgumentException") ∈ TB := tb_mem 175 (by decide +kernel) (by decide +kernel)
theorem wx_19 : (Jvm.Cond.classLink "CertificateDeskLaw" (19 : Nat) "java/lang/IndexOutOfBoundsException") ∈ TB := tb_mem 256 (by decide +kernel) (by decide +kernel)
theorem wx_29 : (Jvm.Cond.classLink "CertificateDeskLaw" (29 : Nat) "java/lang/IllegalStateException") ∈ TB := tb_mem 303 (by decide +kernel) (by decide +kernel)
theorem wx_45 : (Jvm.Cond.classLink "CertificateDeskLaw" (45 : Nat) "java/lang/ArithmeticException") ∈ TB := tb_mem 383 (by decide +kernel) (by decide +kernel)
theorem tl_57 : LW "CertificateDeskLaw" 57 y_La_constant b_La_constant 4 (some .int) [((0 : Nat), (5 : Nat), (8 : Nat), (13 : Nat))] 2 := ⟨k_La_constant, tb_mem 0 (by decide +kernel) (by decide +kernel), ⟨by decide, by decide⟩, by decide +kernel, tb_mem 172 (by decide +kernel) (by decide +kernel), tb_mem 173 (by decide +kernel) (by decide +kernel)⟩
theorem tl_67 : LW "CertificateDeskLaw" 67 y_La_row b_La_row 8 (some .int) [((0 : Nat), (13 : Nat), (16 : Nat), (13 : Nat)), ((0 : Nat), (13 : Nat), (20 : Nat), (19 : Nat))] 5 := ⟨k_La_row, tb_mem 0 (by decide +kernel) (by decide +kernel), ⟨by decide, by decide⟩, by decide +kernel, tb_mem 253 (by decide +kernel) (by decide +kernel), tb_mem 254 (by decide +kernel) (by decide +kernel)⟩
theorem tl_71 : LW "CertificateDeskLaw" 71 y_La_column b_La_column 10 (some .int) [((0 : Nat), (15 : Nat), (18 : Nat), (13 : Nat)), ((0 : Nat), (15 : Nat), (22 : Nat), (19 : Nat))] 6 := ⟨k_La_column, tb_mem 0 (by decide +kernel) (by decide +kernel), ⟨by decide, by decide⟩, by decide +kernel, tb_mem 291 (by decide +kernel) (by decide +kernel), tb_mem 292 (by decide +kernel) (by decide +kernel)⟩
theorem tl_75 : LW "CertificateDeskLaw" 75 y_La_entry b_La_entry 7 (some .int) [((0 : Nat), (12 : Nat), (15 : Nat), (13 : Nat)), ((0 : Nat), (12 : Nat), (19 : Nat), (29 : Nat)), ((0 : Nat), (12 : Nat), (23 : Nat), (19 : Nat))] 5 := ⟨k_La_entry, tb_mem 0 (by decide +kernel) (by decide +kernel), ⟨by decide, by decide⟩, by decide +kernel, tb_mem 300 (by decide +kernel) (by decide +kernel), tb_mem 301 (by decide +kernel) (by decide +kernel)⟩
theorem tl_79 : LW "CertificateDeskLaw" 79 y_La_pair b_La_pair 7 (some .int) [((0 : Nat), (12 : Nat), (15 : Nat), (13 : Nat)), ((0 : Nat), (12 : Nat), (19 : Nat), (29 : Nat)), ((0 : Nat), (12 : Nat), (23 : Nat), (19 : Nat))] 5 := ⟨k_La_pair, tb_mem 0 (by decide +kernel) (by decide +kernel), ⟨by decide, by decide⟩, by decide +kernel, tb_mem 351 (by decide +kernel) (by decide +kernel), tb_mem 352 (by decide +kernel) (by decide +kernel)⟩
theorem tl_82 : LW "CertificateDeskLaw" 82 y_La_x b_La_x 6 (some .int) [((0 : Nat), (8 : Nat), (11 : Nat), (13 : Nat)), ((0 : Nat), (8 : Nat), (15 : Nat), (19 : Nat))] 4 := ⟨k_La_x, tb_mem 0 (by decide +kernel) (by decide +kernel), ⟨by decide, by decide⟩, by decide +kernel, tb_mem 361 (by decide +kernel) (by decide +kernel), tb_mem 362 (by decide +kernel) (by decide +kernel)⟩
theorem tl_86 : LW "CertificateDeskLaw" 86 y_La_y b_La_y 6 (some .int) [((0 : Nat), (8 : Nat), (11 : Nat), (13 : Nat)), ((0 : Nat), (8 : Nat), (15 : Nat), (19 : Nat))] 4 := ⟨k_La_y, tb_mem 0 (by decide +kernel) (by decide +kernel), ⟨by decide, by decide⟩, by decide +kernel, tb_mem 373 (by decide +kernel) (by decide +kernel), tb_mem 374 (by decide +kernel) (by decide +kernel)⟩
theorem tl_89 : LW "CertificateDeskLaw" 89 y_La_certify b_La_certify 5 (some .int) [((0 : Nat), (9 : Nat), (12 : Nat), (13 : Nat)), ((0 : Nat), (9 : Nat), (16 : Nat), (19 : Nat)), ((0 : Nat), (9 : Nat), (20 : Nat), (45 : Nat))] 4 := ⟨k_La_certify, tb_mem 0 (by decide +kernel) (by decide +kernel), ⟨by decide, by decide⟩, by decide +kernel, tb_mem 380 (by decide +kernel) (by decide +kernel), tb_mem 381 (by decide +kernel) (by decide +kernel)⟩
theorem tl_93 : LW "CertificateDeskLaw" 93 y_La_sign b_La_sign 5 (some .int) [((0 : Nat), (10 : Nat), (13 : Nat), (13 : Nat)), ((0 : Nat), (10 : Nat), (17 : Nat), (19 : Nat))] 4 := ⟨k_La_sign, tb_mem 0 (by decide +kernel) (by decide +kernel), ⟨by decide, by decide⟩, by decide +kernel, tb_mem 588 (by decide +kernel) (by decide +kernel), tb_mem 589 (by decide +kernel) (by decide +kernel)⟩
