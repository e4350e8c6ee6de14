def XL : List Cond := [(Jvm.Cond.castable "java/lang/IllegalArgumentException" "java/lang/IllegalArgumentException"), (Jvm.Cond.declares ({ cls := "java/lang/RuntimeException", name := "<init>", desc := "(Ljava/lang/String;)V" } : Jvm.MethodName)), (Jvm.Cond.declares ({ cls := "java/lang/Exception", name := "<init>", desc := "(Ljava/lang/String;)V" } : Jvm.MethodName)), (Jvm.Cond.declares ({ cls := "java/lang/Throwable", name := "<init>", desc := "(Ljava/lang/String;)V" } : Jvm.MethodName)), (Jvm.Cond.castable "java/lang/IndexOutOfBoundsException" "java/lang/IndexOutOfBoundsException"), (Jvm.Cond.castable "java/lang/IllegalStateException" "java/lang/IllegalStateException"), (Jvm.Cond.castable "java/lang/ArithmeticException" "java/lang/ArithmeticException")]
def SL : List (Nat × String) := [(71, "the constant is no number that may be given"), (79, "has is not 0 to 3, or a limit may not be given"), (87, "there are 12 rows"), (94, "has is not 0 to 3, or a number may not be given"), (96, "there are 16 columns"), (102, "no such row or column, or v may not be given"), (109, "the entry is there already"), (113, "there are 100 entries"), (118, "no such column, or v may not be given"), (120, "the pair is there already"), (122, "there are 60 pairs"), (154, "v may not be given, or by is not -600 to 600"), (156, "there is none of that number"), (161, "what is not 0 to 7"), (163, "there is no row k"), (165, "there is no column k"), (143, "the figure is not finite as a double")]
/-! methods that throw -/
def XE (sa : Nat → Nat) (A : Nat → Prop) (U : State) : Prop := (∀ w ∈ XL, va_Nw w U) ∧ (∀ q ∈ SL, vk_R "CertificateDesk" q.1 q.2 (sa q.1) U) ∧ vx_Zq Bundle.tN "UNASSIGNED_STACK" Bundle.steD A U U.heap ∧ vx_Zq Bundle.tN "SUPPRESSED_SENTINEL" Bundle.listD A U U.heap
def isXL : Cond → Bool
  | .declares .. => true
  | .castable .. => true
  | _ => false
theorem XL_is : ∀ w ∈ XL, isXL w = true := by decide +kernel
theorem XE.to {sa : Nat → Nat} {A A' : Nat → Prop} {s U : State} {locs : List Loc} (hX : XE sa A s) (hW : s.WarmedH U.vm) (hS : va_S A s.heap U.heap locs) (hA : ∀ q, A' q → A q) : XE sa A' U := by
  obtain ⟨h1, h2, h3, h4⟩ := hX
  refine ⟨fun w hw => ?_, fun q hq => vk_R.warm hW (h2 q hq), ((vx_Zq.moved hW.alike h3).kept hS.2.1).narrow hA, ((vx_Zq.moved hW.alike h4).kept hS.2.1).narrow hA⟩
  have k1 := h1 w hw
  have k2 := XL_is w hw
  cases w <;> first | exact va_Nw.warmD hW k1 | exact va_Nw.warmC hW k1 | (simp [isXL] at k2; done)
theorem XE.calling {sa : Nat → Nat} {A : Nat → Prop} {U : State} (hX : XE sa A U) (g : JFrame) (mk : MethodId) (a : Array Value) : XE sa A (U.calling g mk a) := by
  obtain ⟨h1, h2, h3, h4⟩ := hX
  refine ⟨fun w hw => ?_, fun q hq => vk_R.same rfl (h2 q hq), vx_Zq.moved (Vm.Alike.refl U.vm) h3, vx_Zq.moved (Vm.Alike.refl U.vm) h4⟩
  have k1 := h1 w hw
  have k2 := XL_is w hw
  cases w <;> first | exact va_tabs (u := U) (U := U.calling g mk a) rfl rfl k1 | (simp [isXL] at k2; done)
def xP (D : va_G) (aC : Nat → ClassId) (sa : Nat → Nat) (av : List Value) (wc : va_W) : Array Value → State → Prop := va_Pc av (fun U => va_P D CL wc U.heap ∧ va_K D CL (TY aC) U ∧ NW U ∧ va_D (fun _ => True) wc ∧ XE sa (aW wc) U)
theorem xP_blind {D : va_G} {aC : Nat → ClassId} {sa : Nat → Nat} {av : List Value} {wc : va_W} : FrameBlind (xP D aC sa av wc) := fun a U g mk q => by
  obtain ⟨q0, qP, qK, qN, qD, qX⟩ := q
  exact ⟨q0, qP, va_K.moved (u := U) (U := U.calling g mk a) (Vm.Alike.refl U.vm) qK, qN.calling g mk a, qD, qX.calling g mk a⟩
def xC (D : va_G) (wc : va_W) (xpost : String → va_W → Prop) : String → State → State → Prop := fun E st t => ∃ w1 : va_W, xpost E w1 ∧ w1.map Prod.fst = wc.map Prod.fst ∧ va_P D CL w1 t.heap ∧ va_F (aW wc) st t
/-- a method that returns or throws; it makes at most mc cells of ms slots, and changes the cells wc alone -/
def XT (l : Launch) (D : va_G) (aC : Nat → ClassId) (sa : Nat → Nat) (y : MethodName) (rm : Room) (mc ms : Nat) (av : List Value) (wc : va_W) (post : Option Value → va_W → Prop) (xpost : String → va_W → Prop) : Prop := vx_Met l y TB rm (xP D aC sa av wc) (cQ D wc post) (xC D wc xpost) mc ms (aW wc)
def rx (d k mc ms : Nat) : Room := { frames := d, cells := mc, slots := ms, locals := k }
theorem rm_okx {d k d' k' maxL mc ms : Nat} (h : d' + 1 ≤ d) (h2 : 8 + (maxL + 11) + k' ≤ k) : RM (rx d k mc ms) (rd d' k') maxL := ⟨rfl, rfl, h, h2⟩
def RX (R rm : Room) (maxL mc ms : Nat) : Prop := rm.cells = mc ∧ rm.slots = ms ∧ rm.frames + 1 ≤ R.frames ∧ 8 + (maxL + 11) + rm.locals ≤ R.locals
theorem rx_ok {d k d' k' maxL mc ms mc' ms' : Nat} (h : d' + 1 ≤ d) (h2 : 8 + (maxL + 11) + k' ≤ k) : RX (rx d k mc ms) (rx d' k' mc' ms') maxL mc' ms' := ⟨rfl, rfl, h, h2⟩
theorem XT.of {l : Launch} {D : va_G} {aC : Nat → ClassId} {sa : Nat → Nat} {y : MethodName} {rm : Room} {mc ms : Nat} {av : List Value} {wc : va_W} {post : Option Value → va_W → Prop} {xpost : String → va_W → Prop} {cc : ByteArray} {maxL : Nat} {ret : Option FieldType}
    (hy : plainFor y = true) (hw : Cond.code y cc maxL ret ∈ TB) (hlen : (lg_sl av).length ≤ maxL)
    (body : ∀ (p : Program) (e : Env) (s : State) (m : MethodId) (below : List Frame) (meth : Method) (c : Code) (Q : State → Prop), CallFix p m c cc maxL s av.toArray TB y.cls → meth.sig.returnType = ret → meth.locks = false → (∀ x ∈ c.exceptionTable.toList, False) →
      (∀ t, vx_MQ below (cQ D wc post) (xC D wc xpost) av.toArray s mc ms (aW wc) t → Q t) → va_K D CL (TY aC) s → NW s → XE sa (aW wc) s → va_P D CL wc s.heap → va_D (aW wc) wc → va_S (aW wc) s.heap s.heap [] →
      ∀ ls : Array Slot, lv_has ls maxL (lv_args 0 av) → W p l e rm s m av.toArray below meth c s.heap [] 0 0 Q (F0 m 0 ls [])) : XT l D aC sa y rm mc ms av wc post xpost := by
  refine MetFree.of_bodySF (code := cc) (maxLocals := maxL) (ret := ret) hy ?_ ?_
  · intro args s m h hn
    obtain ⟨meth, c, h1, h2, h3, h4, h5, h6, -, -⟩ := Cond.code_spec hn (atoms_spec (ws := TB) h _ hw)
    exact ⟨meth, c, h1, h2, h3, h4, h5, h6⟩
  · intro p e s m args below meth c s₁ B hml hv _
    have hh0 : s₁.heap = s.heap := by rw [B.state]; rfl
    have ht : ∀ x ∈ c.exceptionTable.toList, False := by
      obtain ⟨meth9, c9, h1, h2, -, -, -, -, h7, -⟩ := Cond.code_spec B.named (atoms_spec (ws := TB) B.pre _ hw)
      cases Option.some.inj (h1.symm.trans B.method)
      cases Option.some.inj (h2.symm.trans (Stand.of_body B).code)
      intro x hx
      rw [Array.isEmpty_iff.mp h7] at hx
      cases hx
    obtain ⟨rfl, hP, hK, hN, hD, hX⟩ := hv
    have hl := lv_entry av (n := maxL) hlen
    have K := body p e s m below meth c _ ⟨B.exec, B.bytes, hml, findClass_of_methodNamed B.named, atoms_spec (ws := TB) B.pre⟩ B.returns B.notSynchronized ht (fun _ h => h) hK hN hX hP ⟨hD.1, fun k q hk => ⟨k, q.2, hk⟩⟩ va_S.rf _ hl
    rw [← lg_entry_eq] at K
    obtain ⟨t, a1, o, b1, b2, b3⟩ := K s₁ hh0 (Stand.of_body B)
    exact ⟨t, o, a1, b1, b2, b3⟩
section XX
variable {p : Program} {l : Launch} {e : Env} {R : Room} {s : State} {m : MethodId} {args : Array Value} {below : List Frame} {meth : Method} {c : Code} {H : Heap} {locs : List Loc} {Q : State → Prop} {cells slots mc ms : Nat}
variable {cc : ByteArray} {pc : Nat} {ls : Array Slot} {D : va_G} {wc : va_W} {post : Option Value → va_W → Prop} {xpost : String → va_W → Prop}
theorem xx_vret (hx : p.tables.exec = Jvm.exec) (hb : c.code = cc) (hr : meth.sig.returnType = none) (hlocks : meth.locks = false) (hQ : ∀ t, vx_MQ below (cQ D wc post) (xC D wc xpost) args s mc ms (aW wc) t → Q t) (hc : cells ≤ mc ∧ slots ≤ ms) {w1 : va_W} (hp : post none w1) (ha : w1.map Prod.fst = wc.map Prod.fst) (hP : va_P D CL w1 H) (hS : va_S (aW wc) s.heap H locs) (hdg : decode cc pc = .ok (.return_, 1)) : W p l e R s m args below meth c H locs cells slots Q (F0 m pc ls []) :=
  W.widen hc.1 hc.2 (W.weak hQ (vx_ret (W.vret (Qc := cQ D wc post) (free := aW wc) hx hb hr (fun t ht _ => ⟨⟨none, w1, rfl, hp, ha, by rw [ht]; exact hP⟩, hS.F ht⟩) hS.2.2 hdg hlocks)))
theorem xx_iret {v : Int32} (hx : p.tables.exec = Jvm.exec) (hb : c.code = cc) (hr : meth.sig.returnType = some .int) (hlocks : meth.locks = false) (hQ : ∀ t, vx_MQ below (cQ D wc post) (xC D wc xpost) args s mc ms (aW wc) t → Q t) (hc : cells ≤ mc ∧ slots ≤ ms) {w1 : va_W} (hp : post (some (.int v)) w1) (ha : w1.map Prod.fst = wc.map Prod.fst) (hP : va_P D CL w1 H) (hS : va_S (aW wc) s.heap H locs) (hdg : decode cc pc = .ok (.ireturn, 1)) : W p l e R s m args below meth c H locs cells slots Q (F0 m pc ls [.int v]) :=
  W.widen hc.1 hc.2 (W.weak hQ (vx_ret (W.iret (Qc := cQ D wc post) (free := aW wc) hx hb hr (fun t ht _ => ⟨⟨_, w1, rfl, hp, ha, by rw [ht]; exact hP⟩, hS.F ht⟩) hS.2.2 hdg hlocks)))
theorem xx_dret {v : UInt64} (hx : p.tables.exec = Jvm.exec) (hb : c.code = cc) (hr : meth.sig.returnType = some .double) (hlocks : meth.locks = false) (hQ : ∀ t, vx_MQ below (cQ D wc post) (xC D wc xpost) args s mc ms (aW wc) t → Q t) (hc : cells ≤ mc ∧ slots ≤ ms) {w1 : va_W} (hp : post (some (.double v)) w1) (ha : w1.map Prod.fst = wc.map Prod.fst) (hP : va_P D CL w1 H) (hS : va_S (aW wc) s.heap H locs) (hdg : decode cc pc = .ok (.dreturn, 1)) : W p l e R s m args below meth c H locs cells slots Q (F0 m pc ls [.double v]) :=
  W.widen hc.1 hc.2 (W.weak hQ (vx_ret (W.dret (Qc := cQ D wc post) (free := aW wc) hx hb hr (fun t ht _ => ⟨⟨_, w1, rfl, hp, ha, by rw [ht]; exact hP⟩, hS.F ht⟩) hS.2.2 hdg hlocks)))
/-- the words of 'throw new E("text")' -/
def TW (ik iS ic : Nat) (cls text : String) (names : List String) : Prop := Cond.classLink "CertificateDesk" ik cls ∈ TB ∧ Cond.initialized cls ∈ TB ∧ (iS, text) ∈ SL ∧ Bundle.fit cls = true ∧ (∀ n ∈ names, Bundle.fit n = true) ∧ (∀ w ∈ vx_atS "CertificateDesk" ic cls names, w ∈ lw_tbl) ∧ (∀ w ∈ (vx_atS "CertificateDesk" ic cls names).filter (fun w => !goodWord w), w ∈ XL) ∧ ∀ w ∈ Cond.classLink "CertificateDesk" ik cls :: Cond.initialized cls :: vx_atS "CertificateDesk" ic cls names, vx_ot w = true
theorem at_tbl {ws : List Cond} (ps : List Nat) (hp : ws = ps.filterMap (fun i => lw_tbl[i]?)) : ∀ w ∈ ws, w ∈ lw_tbl := by
  intro w hw
  rw [hp] at hw
  obtain ⟨i, -, hi⟩ := List.mem_filterMap.mp hw
  exact List.mem_of_getElem? hi
theorem x_throwS {nL ik iS ic : Nat} {cls text : String} {names : List String} {sa : Nat → Nat} {rest : List Value} (S : CallFix p m c cc nL s args TB "CertificateDesk") (hl : l.stackTraces = false) (hne : ∀ x ∈ c.exceptionTable.toList, False) (hX : XE sa (aW wc) s) (hw : TW ik iS ic cls text names) (hlocks : meth.locks = false) (hQ : ∀ t, vx_MQ below (cQ D wc post) (xC D wc xpost) args s mc ms (aW wc) t → Q t) {w1 : va_W} (hp : xpost cls w1) (ha : w1.map Prod.fst = wc.map Prod.fst) (hP : va_P D CL w1 H) (hS : va_S (aW wc) s.heap H locs) (hls : ls.size = nL)
    (d0 : decode cc pc = .ok (.new ik, 3)) (d3 : decode cc (pc + 3) = .ok (.dup, 1)) (d4 : decode cc (pc + 4) = .ok (.ldc iS, 2)) (d6 : decode cc (pc + 6) = .ok (.invokespecial ic, 3)) (d9 : decode cc (pc + 9) = .ok (.athrow, 1))
    (hRf : names.length + 3 < R.frames) (hRl : (rest.map fun v => v.category).sum + (13 * (names.length + 1) + 43) ≤ R.locals) (hRc : cells + 1 ≤ R.cells ∧ slots + 6 ≤ R.slots) (hc : cells + 1 ≤ mc ∧ slots + 6 ≤ ms) : W p l e R s m args below meth c H locs cells slots Q (F0 m pc ls rest) := by
  obtain ⟨hx, hb, hml, hown, hts⟩ := S
  obtain ⟨h1, h2, h3, h4, h5, h6, h7, h8⟩ := hw
  refine W.weak hQ (vx_throwS hx hb hl hown h4 h5 (hts _ h1) (hts _ h2) (hX.2.1 _ h3) (vx_hat (B := XL) (fun w hw => ?_) h7 (fun w hw => va_Nw.use ?_ (hX.1 w hw))) h8 hX.2.2.1 hX.2.2.2 hS (hls.trans hml.symm) d0 d3 d4 d6 d9 (fun x hx => (hne x hx).elim) hRf hRl hRc.1 hRc.2 hlocks (fun t _ hz hq => ⟨w1, hp, ha, hP.kept (fun k q hk => hq q.1 (vx_lt hP hk)), Nat.le_trans hS.1 hz, fun q h1 h2 => ?_⟩) hS.2.2 hc.1 hc.2)
  · obtain ⟨k1, k2⟩ := List.mem_filter.mp hw
    exact hts w (List.mem_filter.mpr ⟨h6 w k1, k2⟩)
  · have k2 := XL_is w hw
    cases w <;> first | rfl | (simp [isXL] at k2; done)
  · rw [hq q (Nat.lt_of_lt_of_le h1 hS.1), hS.2.1 q h1 h2]
end XX
section XY
variable {p : Program} {l : Launch} {e : Env} {R : Room} {s : State} {m : MethodId} {args : Array Value} {below : List Frame} {meth : Method} {c : Code} {H : Heap} {locs : List Loc} {cells slots : Nat} {Q : State → Prop}
variable {cc bytes : ByteArray} {pc nL maxL index n mc ms mc1 ms1 : Nat} {ls : Array Slot} {rest st0 As : List Value} {D : va_G} {b : Nat} {aC : Nat → ClassId} {sa : Nat → Nat} {ws wc wc1 : va_W} {own : String} {y : MethodName} {ret : Option FieldType} {rm : Room} {post post1 : Option Value → va_W → Prop} {xpost xp1 : String → va_W → Prop}
theorem callB_x (ht : ∀ w ∈ TB, w.before args s = true) (hR : RX R rm maxL mc1 ms1) (h1 : Cond.code y bytes maxL ret ∈ TB) (h2 : Cond.initialized y.cls ∈ TB) (h3 : y.cls ≠ "java/lang/invoke/MethodHandle" ∧ y.cls ≠ "java/lang/invoke/VarHandle") (h4 : (parseMethodDescriptor y.desc).map (fun d => d.parameters.length) = some n) (h5 : Cond.methodLink own index y ∈ TB) : CallB R s args own index y bytes maxL ret TB rm mc1 ms1 n := by
  refine ⟨hR.1, hR.2.1, hR.2.2.1, hR.2.2.2, pay_in ht TB_good, h1, ht _ h1, ht _ h2, h3, fun sig h => ?_, ht _ h5⟩
  rw [h] at h4
  exact (Option.some.inj h4).symm
theorem xQ_back {av : Array Value} (hr : vx_Run p l e R s m args below meth c H locs cells slots mc1 ms1 (F0 m pc ls st0) rest (cQ D wc1 post1 av) (xC D wc1 xp1) (aW wc1)) (hne : ∀ x ∈ c.exceptionTable.toList, False) (hlocks : meth.locks = false) (hQ : ∀ t, vx_MQ below (cQ D wc post) (xC D wc xpost) args s mc ms (aW wc) t → Q t) (hP : va_P D CL ws H) (hD : va_D (aW wc) ws) (hS : va_S (aW wc) s.heap H locs) (isC : List Nat) (hC : isC.map (fun i => ws[i]?) = wc1.map some)
    (hxp : ∀ (E : String) (w1 : va_W), xp1 E w1 → xpost E (va_sets ws isC w1) ∧ (va_sets ws isC w1).map Prod.fst = wc.map Prod.fst) (hmc : cells + mc1 ≤ mc ∧ slots + ms1 ≤ ms)
    (kk : ∀ (v : Option Value) (w1 : va_W) (H1 : Heap) (locs1 : List Loc), post1 v w1 → va_P D CL (va_sets ws isC w1) H1 → va_D (aW wc) (va_sets ws isC w1) → va_S (aW wc) s.heap H1 locs1 → W p l e R s m args below meth c H1 locs1 (cells + mc1) (slots + ms1) Q (F0 m (pc + 3) ls (v.toList ++ rest))) : W p l e R s m args below meth c H locs cells slots Q (F0 m pc ls st0) := by
  have hin := aW_in hD hC
  have hSn : ∀ (st₀ t T' : State) (L : List Loc), st₀.heap = H → T'.heap = t.heap → (∀ q ∈ L, aW wc1 q.base) → va_F (aW wc1) st₀ t → va_S (aW wc) s.heap T'.heap (locs ++ L) := fun st₀ t T' L h0 e1 hL hF => by
    obtain ⟨hz, hk⟩ := hF
    rw [h0] at hz hk
    exact ⟨Nat.le_trans hS.1 (by rw [e1]; exact hz), fun q h1 h2 => by rw [e1, hk q (Nat.lt_of_lt_of_le h1 hS.1) (fun z => h2 (hin q z))]; exact hS.2.1 q h1 h2, fun q hq => by
      rcases List.mem_append.mp hq with h | h
      · exact hS.2.2 q h
      · exact hin _ (hL q h)⟩
  intro T hT X
  rcases hr T hT X with ⟨v, st₀, t, T', L, h0, X', hL, e1, e2, ⟨⟨v', w1, hv, hp, hm, hP1⟩, hF⟩, st⟩ | ⟨q, st₀, t, T', L, E, ce, h0, X', hL, e1, e2, ⟨w1, hp, hm, hP1, hF⟩, hce, hcv, hcl, st⟩
  · cases hv
    have hk : ∀ q : Nat, q < H.size → ¬ aW wc1 q → t.heap[q]? = H[q]? := by rw [← h0]; exact hF.2
    obtain ⟨hPn, hDn⟩ := va_back hP hD isC hC hm hk hP1
    obtain ⟨t2, a1, b1⟩ := kk v w1 T'.heap (locs ++ L) hp (by rw [e1]; exact hPn) hDn (hSn st₀ t T' L h0 e1 hL hF) T' rfl X'
    exact ⟨t2, st t2 a1, b1⟩
  · have hk : ∀ q : Nat, q < H.size → ¬ aW wc1 q → t.heap[q]? = H[q]? := by rw [← h0]; exact hF.2
    obtain ⟨hPn, hDn⟩ := va_back hP hD isC hC hm hk hP1
    have hSn' := hSn st₀ t T' L h0 e1 hL hF
    obtain ⟨x1, x2⟩ := hxp E w1 hp
    have K : vx_W p l e R s m args below meth c T'.heap (locs ++ L) (cells + mc1) (slots + ms1) (vx_MQ below (cQ D wc post) (xC D wc xpost) args s mc ms (aW wc)) (F0 m pc ls rest) q :=
      vx_out (fun x hx => (hne x hx).elim) hlocks (by rw [e1]; exact hce) hcv hcl (fun t9 ht9 _ => ⟨_, x1, x2, by rw [ht9, e1]; exact hPn, hSn'.F ht9⟩) hSn'.2.2 hmc.1 hmc.2
    obtain ⟨t2, a1, b1⟩ := K T' rfl X'
    exact ⟨t2, st.trans a1, hQ _ b1⟩
theorem x_callVX (S : CallFix p m c cc nL s args TB own) (hM : XT l D aC sa y rm mc1 ms1 (.ref b :: As) wc1 post1 xp1) (hw : VW own index y bytes maxL ret n) (hR : RX R rm maxL mc1 ms1) (hne : ∀ x ∈ c.exceptionTable.toList, False) (hlocks : meth.locks = false) (hQ : ∀ t, vx_MQ below (cQ D wc post) (xC D wc xpost) args s mc ms (aW wc) t → Q t) (hK : va_K D CL (TY aC) s) (hN : NW s) (hX : XE sa (aW wc) s) (hP : va_P D CL ws H) (hD : va_D (aW wc) ws) (hS : va_S (aW wc) s.heap H locs) (isC : List Nat) (hC : isC.map (fun i => ws[i]?) = wc1.map some) (hnd : va_nd isC = true)
    (hxp : ∀ (E : String) (w1 : va_W), xp1 E w1 → xpost E (va_sets ws isC w1) ∧ (va_sets ws isC w1).map Prod.fst = wc.map Prod.fst) (hmc : cells + mc1 ≤ mc ∧ slots + ms1 ≤ ms)
    (q0 ci : Nat) {fs : List Value} {T : u_T} {N : Nat} (hq : wc1[q0]? = some (b, .inr (ci, fs))) (hc : CL[ci]? = some (y.cls, T, N)) (hn : As.length = n) (hls : ls.size = nL) (hst : st0 = As.reverse ++ .ref b :: rest) (hrest : (rest.map fun v => v.category).sum ≤ 8) (hdg : decode cc pc = .ok (.invokevirtual index, 3)) (hcs : cells + mc1 ≤ R.cells ∧ slots + ms1 ≤ R.slots)
    (kk : ∀ (v : Option Value) (w1 : va_W) (H1 : Heap) (locs1 : List Loc), post1 v w1 → va_P D CL (va_sets ws isC w1) H1 → va_D (aW wc) (va_sets ws isC w1) → va_S (aW wc) s.heap H1 locs1 → W p l e R s m args below meth c H1 locs1 (cells + mc1) (slots + ms1) Q (F0 m (pc + 3) ls (v.toList ++ rest))) : W p l e R s m args below meth c H locs cells slots Q (F0 m pc ls st0) := by
  obtain ⟨h1, h2, h3, h4, h5, h6, h7⟩ := hw
  have hPc := va_P_at hP hC
  have hDc := va_D_at hD hC hnd
  have hin := aW_in hD hC
  exact xQ_back (vx_runV (C := y.cls) S hM ⟨callB_x S.2.2.2.2 hR h1 h2 h3 h4 h5, S.2.2.2.2 _ h6, S.2.2.2.2 _ h7⟩ ⟨xP_blind, va_recv hK hPc hc hq, fun U hU hW => ⟨rfl, by rw [hU]; exact hPc, va_K.moved hW.alike hK, hN.warm hW, hDc, hX.to hW (by rw [hU]; exact hS) hin⟩⟩ rfl hn hls hst (lv_room hrest) hdg hcs) hne hlocks hQ hP hD hS isC hC hxp hmc kk
theorem x_callSX (S : CallFix p m c cc nL s args TB own) (hM : XT l D aC sa y rm mc1 ms1 As wc1 post1 xp1) (hw : SW own index y bytes maxL ret n) (hR : RX R rm maxL mc1 ms1) (hne : ∀ x ∈ c.exceptionTable.toList, False) (hlocks : meth.locks = false) (hQ : ∀ t, vx_MQ below (cQ D wc post) (xC D wc xpost) args s mc ms (aW wc) t → Q t) (hK : va_K D CL (TY aC) s) (hN : NW s) (hX : XE sa (aW wc) s) (hP : va_P D CL ws H) (hD : va_D (aW wc) ws) (hS : va_S (aW wc) s.heap H locs) (isC : List Nat) (hC : isC.map (fun i => ws[i]?) = wc1.map some) (hnd : va_nd isC = true)
    (hxp : ∀ (E : String) (w1 : va_W), xp1 E w1 → xpost E (va_sets ws isC w1) ∧ (va_sets ws isC w1).map Prod.fst = wc.map Prod.fst) (hmc : cells + mc1 ≤ mc ∧ slots + ms1 ≤ ms)
    (hn : As.length = n) (hls : ls.size = nL) (hst : st0 = As.reverse ++ rest) (hrest : (rest.map fun v => v.category).sum ≤ 8) (hdg : decode cc pc = .ok (.invokestatic index, 3)) (hcs : cells + mc1 ≤ R.cells ∧ slots + ms1 ≤ R.slots)
    (kk : ∀ (v : Option Value) (w1 : va_W) (H1 : Heap) (locs1 : List Loc), post1 v w1 → va_P D CL (va_sets ws isC w1) H1 → va_D (aW wc) (va_sets ws isC w1) → va_S (aW wc) s.heap H1 locs1 → W p l e R s m args below meth c H1 locs1 (cells + mc1) (slots + ms1) Q (F0 m (pc + 3) ls (v.toList ++ rest))) : W p l e R s m args below meth c H locs cells slots Q (F0 m pc ls st0) := by
  obtain ⟨h1, h2, h3, h4, h5, h6⟩ := hw
  have hPc := va_P_at hP hC
  have hDc := va_D_at hD hC hnd
  have hin := aW_in hD hC
  exact xQ_back (vx_runS S hM ⟨callB_x S.2.2.2.2 hR h1 h2 h3 h4 h5, S.2.2.2.2 _ h6⟩ ⟨xP_blind, fun U hU hW => ⟨rfl, by rw [hU]; exact hPc, va_K.moved hW.alike hK, hN.warm hW, hDc, hX.to hW (by rw [hU]; exact hS) hin⟩⟩ rfl hn hls hst (lv_room hrest) hdg hcs) hne hlocks hQ hP hD hS isC hC hxp hmc kk
end XY

def NM : List String := ["java/lang/RuntimeException", "java/lang/Exception"]
theorem ta_73 : ∀ w ∈ vx_atS "CertificateDesk" 73 "java/lang/IllegalArgumentException" NM, w ∈ lw_tbl := at_tbl [47, 244, 253, 258, 261, 263, 245, 246, 64, 65, 247, 252, 259, 279, 234, 280, 236, 281, 238, 248, 250, 240, 275, 276, 278, 240, 266, 267, 268, 269, 226, 269, 270, 271, 272, 228, 272, 273, 274, 275, 230, 265, 223, 224, 231, 232, 233, 235, 237, 239, 243, 242, 241] (by decide +kernel)
theorem tg_73 : ∀ w ∈ (vx_atS "CertificateDesk" 73 "java/lang/IllegalArgumentException" NM).filter (fun w => !goodWord w), w ∈ XL := by decide +kernel
theorem to_73 : ∀ w ∈ Cond.classLink "CertificateDesk" 69 "java/lang/IllegalArgumentException" :: Cond.initialized "java/lang/IllegalArgumentException" :: vx_atS "CertificateDesk" 73 "java/lang/IllegalArgumentException" NM, vx_ot w = true := List.all_eq_true.mp (by decide +kernel)
theorem tw_73 {iS : Nat} {text : String} (h : (iS, text) ∈ SL) : TW 69 iS 73 "java/lang/IllegalArgumentException" text NM := ⟨tb_mem 184 (by decide +kernel) (by decide +kernel), tb_mem 12 (by decide +kernel) (by decide +kernel), h, by decide +kernel, by decide +kernel, ta_73, tg_73, to_73⟩
theorem ta_89 : ∀ w ∈ vx_atS "CertificateDesk" 89 "java/lang/IndexOutOfBoundsException" NM, w ∈ lw_tbl := at_tbl [47, 244, 253, 258, 261, 263, 245, 246, 64, 65, 247, 252, 259, 279, 234, 280, 236, 281, 238, 248, 250, 240, 275, 276, 278, 240, 319, 320, 321, 269, 226, 269, 270, 271, 272, 228, 272, 273, 274, 275, 230, 318, 309, 310, 311, 257, 312, 313, 314, 315, 243, 242, 316] (by decide +kernel)
theorem tg_89 : ∀ w ∈ (vx_atS "CertificateDesk" 89 "java/lang/IndexOutOfBoundsException" NM).filter (fun w => !goodWord w), w ∈ XL := by decide +kernel
theorem to_89 : ∀ w ∈ Cond.classLink "CertificateDesk" 85 "java/lang/IndexOutOfBoundsException" :: Cond.initialized "java/lang/IndexOutOfBoundsException" :: vx_atS "CertificateDesk" 89 "java/lang/IndexOutOfBoundsException" NM, vx_ot w = true := List.all_eq_true.mp (by decide +kernel)
theorem tw_89 {iS : Nat} {text : String} (h : (iS, text) ∈ SL) : TW 85 iS 89 "java/lang/IndexOutOfBoundsException" text NM := ⟨tb_mem 270 (by decide +kernel) (by decide +kernel), tb_mem 13 (by decide +kernel) (by decide +kernel), h, by decide +kernel, by decide +kernel, ta_89, tg_89, to_89⟩
theorem ta_111 : ∀ w ∈ vx_atS "CertificateDesk" 111 "java/lang/IllegalStateException" NM, w ∈ lw_tbl := at_tbl [47, 244, 253, 258, 261, 263, 245, 246, 64, 65, 247, 252, 259, 279, 234, 280, 236, 281, 238, 248, 250, 240, 275, 276, 278, 240, 374, 375, 376, 269, 226, 269, 270, 271, 272, 228, 272, 273, 274, 275, 230, 373, 364, 365, 366, 256, 367, 368, 369, 370, 243, 242, 371] (by decide +kernel)
theorem tg_111 : ∀ w ∈ (vx_atS "CertificateDesk" 111 "java/lang/IllegalStateException" NM).filter (fun w => !goodWord w), w ∈ XL := by decide +kernel
theorem to_111 : ∀ w ∈ Cond.classLink "CertificateDesk" 107 "java/lang/IllegalStateException" :: Cond.initialized "java/lang/IllegalStateException" :: vx_atS "CertificateDesk" 111 "java/lang/IllegalStateException" NM, vx_ot w = true := List.all_eq_true.mp (by decide +kernel)
theorem tw_111 {iS : Nat} {text : String} (h : (iS, text) ∈ SL) : TW 107 iS 111 "java/lang/IllegalStateException" text NM := ⟨tb_mem 325 (by decide +kernel) (by decide +kernel), tb_mem 14 (by decide +kernel) (by decide +kernel), h, by decide +kernel, by decide +kernel, ta_111, tg_111, to_111⟩
theorem ta_145 : ∀ w ∈ vx_atS "CertificateDesk" 145 "java/lang/ArithmeticException" NM, w ∈ lw_tbl := at_tbl [47, 244, 253, 258, 261, 263, 245, 246, 64, 65, 247, 252, 259, 279, 234, 280, 236, 281, 238, 248, 250, 240, 275, 276, 278, 240, 608, 609, 610, 269, 226, 269, 270, 271, 272, 228, 272, 273, 274, 275, 230, 607, 598, 599, 600, 255, 601, 602, 603, 604, 243, 242, 605] (by decide +kernel)
theorem tg_145 : ∀ w ∈ (vx_atS "CertificateDesk" 145 "java/lang/ArithmeticException" NM).filter (fun w => !goodWord w), w ∈ XL := by decide +kernel
theorem to_145 : ∀ w ∈ Cond.classLink "CertificateDesk" 141 "java/lang/ArithmeticException" :: Cond.initialized "java/lang/ArithmeticException" :: vx_atS "CertificateDesk" 145 "java/lang/ArithmeticException" NM, vx_ot w = true := List.all_eq_true.mp (by decide +kernel)
theorem tw_145 {iS : Nat} {text : String} (h : (iS, text) ∈ SL) : TW 141 iS 145 "java/lang/ArithmeticException" text NM := ⟨tb_mem 559 (by decide +kernel) (by decide +kernel), tb_mem 19 (by decide +kernel) (by decide +kernel), h, by decide +kernel, by decide +kernel, ta_145, tg_145, to_145⟩
theorem ts_71 : (71, "the constant is no number that may be given") ∈ SL := List.mem_of_getElem? (i := 0) rfl
theorem ts_79 : (79, "has is not 0 to 3, or a limit may not be given") ∈ SL := List.mem_of_getElem? (i := 1) rfl
theorem ts_87 : (87, "there are 12 rows") ∈ SL := List.mem_of_getElem? (i := 2) rfl
theorem ts_94 : (94, "has is not 0 to 3, or a number may not be given") ∈ SL := List.mem_of_getElem? (i := 3) rfl
theorem ts_96 : (96, "there are 16 columns") ∈ SL := List.mem_of_getElem? (i := 4) rfl
theorem ts_102 : (102, "no such row or column, or v may not be given") ∈ SL := List.mem_of_getElem? (i := 5) rfl
theorem ts_109 : (109, "the entry is there already") ∈ SL := List.mem_of_getElem? (i := 6) rfl
theorem ts_113 : (113, "there are 100 entries") ∈ SL := List.mem_of_getElem? (i := 7) rfl
theorem ts_118 : (118, "no such column, or v may not be given") ∈ SL := List.mem_of_getElem? (i := 8) rfl
theorem ts_120 : (120, "the pair is there already") ∈ SL := List.mem_of_getElem? (i := 9) rfl
theorem ts_122 : (122, "there are 60 pairs") ∈ SL := List.mem_of_getElem? (i := 10) rfl
theorem ts_154 : (154, "v may not be given, or by is not -600 to 600") ∈ SL := List.mem_of_getElem? (i := 11) rfl
theorem ts_156 : (156, "there is none of that number") ∈ SL := List.mem_of_getElem? (i := 12) rfl
theorem ts_161 : (161, "what is not 0 to 7") ∈ SL := List.mem_of_getElem? (i := 13) rfl
theorem ts_163 : (163, "there is no row k") ∈ SL := List.mem_of_getElem? (i := 14) rfl
theorem ts_165 : (165, "there is no column k") ∈ SL := List.mem_of_getElem? (i := 15) rfl
theorem ts_143 : (143, "the figure is not finite as a double") ∈ SL := List.mem_of_getElem? (i := 16) rfl
