/-! constructors: methods that make cells -/
def iP (D : va_G) (aC : Nat → ClassId) (av : List Value) (wc : va_W) (sz : Nat) : Array Value → State → Prop := va_Pc av (fun U => U.heap.size = sz ∧ va_P D CL wc U.heap ∧ va_K D CL (TY aC) U ∧ NW U ∧ va_D (fun _ => True) wc)
def iQ (D : va_G) (wc : va_W) (sz : Nat) (post : va_W → Prop) : Array Value → State → Outcome → State → Prop := fun _ st oc t => (∃ w1 : va_W, oc = .returned none ∧ post w1 ∧ va_P D CL w1 t.heap ∧ va_D (va_A wc sz) w1) ∧ va_F (va_A wc sz) st t
theorem iP_blind {D : va_G} {aC : Nat → ClassId} {av : List Value} {wc : va_W} {sz : Nat} : FrameBlind (iP D aC av wc sz) := fun a U g mk q => by
  obtain ⟨q0, qz, qP, qK, qN, qD⟩ := q
  exact ⟨q0, qz, qP, va_K.moved (u := U) (U := U.calling g mk a) (Vm.Alike.refl U.vm) qK, qN.calling g mk a, qD⟩
/-- a constructor: it makes at most mc cells of ms slots -/
def IT (l : Launch) (D : va_G) (aC : Nat → ClassId) (y : MethodName) (rm : Room) (mc ms : Nat) (av : List Value) (wc : va_W) (post : va_W → Prop) : Prop := ∀ sz : Nat, Met l y TB rm (iP D aC av wc sz) (iQ D wc sz post) mc ms (va_A wc sz)
theorem IT.of {l : Launch} {D : va_G} {aC : Nat → ClassId} {y : MethodName} {rm : Room} {mc ms : Nat} {av : List Value} {wc : va_W} {post : va_W → Prop} {cc : ByteArray} {maxL : Nat}
    (hy : plainFor y = true) (hw : Cond.code y cc maxL none ∈ TB) (hyi : y.name = "<init>") (hlen : (lg_sl av).length ≤ maxL)
    (body : ∀ (p : Program) (e : Env) (s : State) (m : MethodId) (below : List Frame) (meth : Method) (c : Code) (Q : State → Prop), CallFix p m c cc maxL s av.toArray TB y.cls → meth.sig.returnType = none → meth.locks = false → meth.name = "<init>" →
      (∀ t, MQ below (iQ D wc s.heap.size post) av.toArray s mc ms (va_A wc s.heap.size) t → Q t) → va_K D CL (TY aC) s → NW s → va_P D CL wc s.heap → va_D (va_A wc s.heap.size) wc → va_S (va_A wc s.heap.size) s.heap s.heap [] →
      ∀ ls : Array Slot, lv_has ls maxL (lv_args 0 av) → W p l e rm s m av.toArray below meth c s.heap [] 0 0 Q (F0 m 0 ls [])) : IT l D aC y rm mc ms av wc post := by
  intro sz
  refine met_of (cc := cc) (maxL := maxL) (ret := none) hy hw ?_
  intro p e s m args below meth c s₁ B hml hv
  obtain ⟨rfl, hz, hP, hK, hN, hD⟩ := hv
  subst hz
  have hl := lv_entry av (n := maxL) hlen
  rw [lg_entry_eq]
  exact body p e s m below meth c _ ⟨B.exec, B.bytes, hml, findClass_of_methodNamed B.named, atoms_spec (ws := TB) B.pre⟩ B.returns B.notSynchronized ((name_of_methodNamed B.named B.method).1.trans hyi) (fun _ h => h) hK hN hP ⟨hD.1, fun k q hk => Or.inl ⟨k, q.2, hk⟩⟩ va_S.rf _ hl
def IW (own : String) (index : Nat) (y : MethodName) (bytes : ByteArray) (maxL n : Nat) : Prop :=
  Cond.code y bytes maxL none ∈ TB ∧ Cond.initialized y.cls ∈ TB ∧ (y.cls ≠ "java/lang/invoke/MethodHandle" ∧ y.cls ≠ "java/lang/invoke/VarHandle") ∧ (parseMethodDescriptor y.desc).map (fun d => d.parameters.length) = some n ∧ y.name = "<init>" ∧ Cond.instanceMethod y ∈ TB ∧ (Cond.methodLink own index y ∈ TB ∨ ∃ host : String, Cond.methodLinkNest own index y host ∈ NL)
section XI
variable {p : Program} {l : Launch} {e : Env} {R : Room} {s : State} {m : MethodId} {args : Array Value} {below : List Frame} {meth : Method} {c : Code} {H : Heap} {locs : List Loc} {cells slots : Nat} {Q : State → Prop}
variable {cc bytes : ByteArray} {pc nL maxL index n mc ms : Nat} {ls : Array Slot} {rest st0 As : List Value} {D : va_G} {A : Nat → Prop} {b : Nat} {aC : Nat → ClassId} {ws wc wr : va_W} {H0 : Heap} {own : String} {y : MethodName} {rm : Room} {post : va_W → Prop}
theorem x_ivret (hx : p.tables.exec = Jvm.exec) (hb : c.code = cc) (hr : meth.sig.returnType = none) (hlocks : meth.locks = false) (hQ : ∀ t, MQ below (iQ D wc s.heap.size post) args s mc ms (va_A wc s.heap.size) t → Q t) (hc : cells ≤ mc ∧ slots ≤ ms) {w1 : va_W} (hp : post w1) (hP : va_P D CL w1 H) (hD : va_D (va_A wc s.heap.size) w1) (hS : va_S (va_A wc s.heap.size) s.heap H locs) (hdg : decode cc pc = .ok (.return_, 1)) : W p l e R s m args below meth c H locs cells slots Q (F0 m pc ls []) :=
  W.widen hc.1 hc.2 (W.weak hQ (W.vret (Qc := iQ D wc s.heap.size post) (free := va_A wc s.heap.size) hx hb hr (fun t ht _ => ⟨⟨w1, rfl, hp, by rw [ht]; exact hP, hD⟩, hS.F ht⟩) hS.2.2 hdg hlocks))
theorem x_callI (S : CallFix p m c cc nL s args TB own) (hM : IT l D aC y rm mc ms (.ref b :: As) wc post) (hw : IW own index y bytes maxL n) (hR : RX R rm maxL mc ms) (hK : va_K D CL (TY aC) s) (hN : NW s) (hP : va_P D CL ws H) (hD : va_D A ws) (hS : va_S A H0 H locs) (hA : ∀ q, H0.size ≤ q → A q) (isC isR : List Nat) (hC : isC.map (fun i => ws[i]?) = wc.map some) (hRr : isR.map (fun i => ws[i]?) = wr.map some) (hnd : va_nd isC = true) (hnr : va_nd isR = true) (hdis : ∀ i ∈ isR, i ∉ isC)
    (hn : As.length = n) (hls : ls.size = nL) (hst : st0 = As.reverse ++ .ref b :: rest) (hrest : (rest.map fun v => v.category).sum ≤ 8) (hdg : decode cc pc = .ok (.invokespecial index, 3)) (hcs : cells + mc ≤ R.cells ∧ slots + ms ≤ R.slots)
    (kk : ∀ (w1 : va_W) (H1 : Heap) (locs1 : List Loc), post w1 → va_P D CL (wr ++ w1) H1 → va_D A (wr ++ w1) → va_S A H0 H1 locs1 → W p l e R s m args below meth c H1 locs1 (cells + mc) (slots + ms) Q (F0 m (pc + 3) ls rest)) : W p l e R s m args below meth c H locs cells slots Q (F0 m pc ls st0) := by
  obtain ⟨h1, h2, h3, h4, h5, h6, h7⟩ := hw
  have hts := S.2.2.2.2
  have hPc := va_P_at hP hC
  have hDc := va_D_at hD hC hnd
  have hFc := va_free (wc := wc) hD hS hA isC hC
  have hp : PreS s H (iP D aC (.ref b :: As) wc H.size) (.ref b :: As) := ⟨iP_blind, fun U hU hW => ⟨rfl, by rw [hU], by rw [hU]; exact hPc, va_K.moved hW.alike hK, hN.warm hW, hDc⟩⟩
  have hlen : ∀ sig, parseMethodDescriptor y.desc = some sig → n = sig.parameters.length := fun sig h => by
    rw [h] at h4
    exact (Option.some.inj h4).symm
  have hr : va_Run p l e R s m args below meth c H locs cells slots mc ms (F0 m pc ls st0) rest (iQ D wc H.size post (Value.ref b :: As).toArray) (va_A wc H.size) := by
    rcases h7 with h7 | ⟨host, h7⟩
    · exact va_runI S (hM H.size) ⟨⟨hR.1, hR.2.1, hR.2.2.1, hR.2.2.2, pay_in hts TB_good, h1, hts _ h1, hts _ h2, h3, hlen, hts _ h7⟩, h5, hts _ h6⟩ hp rfl hn hls hst (lv_room hrest) hdg hcs
    · exact va_runIN (host := host) S (hM H.size) ⟨⟨⟨hR.1, hR.2.1, hR.2.2.1, hR.2.2.2, pay_in hts TB_good, h1⟩, hts _ h1, hts _ h2, h3, hlen, va_Nw.use rfl (hN _ h7)⟩, h5, hts _ h6⟩ hp rfl hn hls hst (lv_room hrest) hdg hcs
  intro T hT X
  obtain ⟨v, st₀, t, T', L, h0, X', hL, e1, e2, ⟨⟨w1, hv, hp1, hP1, hD1⟩, hz, hk⟩, st⟩ := hr T hT X
  cases hv
  rw [h0] at hz hk
  obtain ⟨hPn, hDn⟩ := va_join hP hD isC isR hC hRr hnr hdis hk hFc hP1 hD1
  obtain ⟨t2, a1, b1⟩ := kk w1 T'.heap (locs ++ L) hp1 (by rw [e1]; exact hPn) hDn
    ⟨Nat.le_trans hS.1 (by rw [e1]; exact hz), fun q h1 h2 => by rw [e1, hk q (Nat.lt_of_lt_of_le h1 hS.1) (fun z => h2 (hFc q z))]; exact hS.2.1 q h1 h2, fun q hq => by
      rcases List.mem_append.mp hq with h | h
      · exact hS.2.2 q h
      · exact hFc _ (hL q h)⟩ T' rfl X'
  exact ⟨t2, st t2 a1, b1⟩
/-- a new array of 0s; t0 is its kind's place in TY -/
theorem x_newa {atype : ArrayType} {ty : FieldType} (hx : p.tables.exec = Jvm.exec) (hb : c.code = cc) (hty : newarray.typeOf atype = ty) (harr : (Cond.arrayClass ty).before args s = true) (hK : va_K D CL (TY aC) s) (hP : va_P D CL ws H) (hD : va_D A ws) (hS : va_S A H0 H locs) (hA : ∀ q, H0.size ≤ q → A q) (t0 : Nat) {cA : ClassId} (ht : (TY aC)[t0]? = some (cA, ty)) (hra : ∀ (U : State) (x : ClassId), va_RA U x ty → U.vm.findClass ("[" ++ ty.toString) = some x) {N : Nat} {a0 : vp_A} (ha : ∀ x : ClassId, vp_cell x a0 = arrV x N (fun _ => defaultValue ty)) (hN : N + 1 < 2147483648) (hbytes : N * componentBytes ty ≤ 536870912) (hcells : cells + 1 ≤ R.cells) (hslots : slots + N ≤ R.slots) (hdg : decode cc pc = .ok (.newarray atype, 2))
    (kk : ∀ (q : Nat) (H1 : Heap), va_P D CL (ws ++ [(q, .inl (cA, a0))]) H1 → va_D A (ws ++ [(q, .inl (cA, a0))]) → va_S A H0 H1 locs → W p l e R s m args below meth c H1 locs (cells + 1) (slots + N) Q (F0 m (pc + 2) ls (.ref q :: rest))) : W p l e R s m args below meth c H locs cells slots Q (F0 m pc ls (.int (iI (N : Int)) :: rest)) := by
  subst hty
  refine va_newa hx hb harr rfl hK hP hD hS hA ha (n := iI (N : Int)) (N' := N) ?_ (by rw [iI_clamp (by omega)]; omega) hbytes hcells hslots hdg (fun q cA' H1 k1 h1 h2 h3 => ?_)
  · have := iI_in (i := (N : Int)) (n := N + 1) (by omega) (by omega)
    exact fun z => this (Or.inl z)
  · have e1 := hra s _ (hK.2 t0 _ ht).2
    have e2 := hra s _ (k1.2 4 (cA', newarray.typeOf atype) rfl).2
    have e3 : cA' = cA := Option.some.inj (e2.symm.trans e1)
    subst e3
    exact kk q H1 h1 h2 h3
end XI
theorem nw_I (x : ClassId) (n : Nat) : vp_cell x (n, .inl (fun k : Nat => iI ((fun _ : Int => (0 : Int)) (k : Int)))) = arrV x n (fun _ => defaultValue .int) := rfl
theorem nw_Z (x : ClassId) (n : Nat) : vp_cell x (n, .inl (fun k : Nat => iI ((fun _ : Int => (0 : Int)) (k : Int)))) = arrV x n (fun _ => defaultValue .boolean) := rfl
theorem nw_J (x : ClassId) (n : Nat) : vp_cell x (n, .inr (.inl (fun k : Nat => lI ((fun _ : Int => (0 : Int)) (k : Int))))) = arrV x n (fun _ => defaultValue .long) := rfl
theorem dM_z3 : dM 0 (-3) = 0 := by decide +kernel
theorem dM_z0 : dM 0 0 = 0 := by decide +kernel
theorem nw_D3 (x : ClassId) (n : Nat) : vp_cell x (n, .inr (.inr (.inr (.inl (fun k : Nat => dA (fun _ => 0) c3 (k : Int)))))) = arrV x n (fun _ => defaultValue .double) := by
  show arrV x n (fun j : Nat => Value.double (dM 0 (-3))) = _
  rw [dM_z3]; rfl
theorem nw_D0 (x : ClassId) (n : Nat) : vp_cell x (n, .inr (.inr (.inr (.inl (fun k : Nat => dA (fun _ => 0) (fun _ => 0) (k : Int)))))) = arrV x n (fun _ => defaultValue .double) := by
  show arrV x n (fun j : Nat => Value.double (dM 0 0)) = _
  rw [dM_z0]; rfl

theorem wl_De_7 : (Jvm.Cond.classLink "CertificateDesk" (7 : Nat) "CertificateDesk$Numbers") ∈ TB := tb_mem 28 (by decide +kernel) (by decide +kernel)
theorem wl_De_24 : (Jvm.Cond.classLink "CertificateDesk" (24 : Nat) "CertificateDesk$Lines") ∈ TB := tb_mem 46 (by decide +kernel) (by decide +kernel)
theorem wl_De_34 : (Jvm.Cond.classLink "CertificateDesk" (34 : Nat) "CertificateDesk$Cells") ∈ TB := tb_mem 75 (by decide +kernel) (by decide +kernel)
theorem wl_De_44 : (Jvm.Cond.classLink "CertificateDesk" (44 : Nat) "CertificateDesk$Product") ∈ TB := tb_mem 99 (by decide +kernel) (by decide +kernel)
theorem wl_De_51 : (Jvm.Cond.classLink "CertificateDesk" (51 : Nat) "CertificateDesk$Exact") ∈ TB := tb_mem 118 (by decide +kernel) (by decide +kernel)
theorem wl_Ce_22 : (Jvm.Cond.classLink "CertificateDesk$Cells" (22 : Nat) "CertificateDesk$Numbers") ∈ TB := tb_mem 82 (by decide +kernel) (by decide +kernel)
theorem wl_Li_19 : (Jvm.Cond.classLink "CertificateDesk$Lines" (19 : Nat) "CertificateDesk$Numbers") ∈ TB := tb_mem 53 (by decide +kernel) (by decide +kernel)
theorem wl_La_8 : (Jvm.Cond.classLink "CertificateDeskLaw" (8 : Nat) "CertificateDesk") ∈ TB := tb_mem 20 (by decide +kernel) (by decide +kernel)
theorem wl_La_52 : (Jvm.Cond.classLink "CertificateDeskLaw" (52 : Nat) "CertificateDeskModel") ∈ TB := tb_mem 595 (by decide +kernel) (by decide +kernel)
theorem wn_De : (Jvm.Cond.instantiable "CertificateDesk" (10 : Nat)) ∈ TB := tb_mem 21 (by decide +kernel) (by decide +kernel)
theorem wn_Ce : (Jvm.Cond.instantiable "CertificateDesk$Cells" (4 : Nat)) ∈ TB := tb_mem 76 (by decide +kernel) (by decide +kernel)
theorem wn_Ex : (Jvm.Cond.instantiable "CertificateDesk$Exact" (3 : Nat)) ∈ TB := tb_mem 119 (by decide +kernel) (by decide +kernel)
theorem wn_Li : (Jvm.Cond.instantiable "CertificateDesk$Lines" (5 : Nat)) ∈ TB := tb_mem 47 (by decide +kernel) (by decide +kernel)
theorem wn_Nu : (Jvm.Cond.instantiable "CertificateDesk$Numbers" (2 : Nat)) ∈ TB := tb_mem 29 (by decide +kernel) (by decide +kernel)
theorem wn_Pr : (Jvm.Cond.instantiable "CertificateDesk$Product" (3 : Nat)) ∈ TB := tb_mem 100 (by decide +kernel) (by decide +kernel)
theorem wn_Mo : (Jvm.Cond.instantiable "CertificateDeskModel" (29 : Nat)) ∈ TB := tb_mem 596 (by decide +kernel) (by decide +kernel)
theorem wi_De : (Jvm.Cond.initialized "CertificateDesk") ∈ TB := tb_mem 1 (by decide +kernel) (by decide +kernel)
theorem wi_Ce : (Jvm.Cond.initialized "CertificateDesk$Cells") ∈ TB := tb_mem 5 (by decide +kernel) (by decide +kernel)
theorem wi_Ex : (Jvm.Cond.initialized "CertificateDesk$Exact") ∈ TB := tb_mem 7 (by decide +kernel) (by decide +kernel)
theorem wi_Li : (Jvm.Cond.initialized "CertificateDesk$Lines") ∈ TB := tb_mem 4 (by decide +kernel) (by decide +kernel)
theorem wi_Nu : (Jvm.Cond.initialized "CertificateDesk$Numbers") ∈ TB := tb_mem 2 (by decide +kernel) (by decide +kernel)
theorem wi_Pr : (Jvm.Cond.initialized "CertificateDesk$Product") ∈ TB := tb_mem 6 (by decide +kernel) (by decide +kernel)
theorem wi_Mo : (Jvm.Cond.initialized "CertificateDeskModel") ∈ TB := tb_mem 8 (by decide +kernel) (by decide +kernel)
theorem wa_Z : Cond.arrayClass .boolean ∈ TB := tb_mem 690 (by decide +kernel) (by decide +kernel)
theorem wa_D : Cond.arrayClass .double ∈ TB := tb_mem 689 (by decide +kernel) (by decide +kernel)
theorem wa_I : Cond.arrayClass .int ∈ TB := tb_mem 45 (by decide +kernel) (by decide +kernel)
theorem wa_J : Cond.arrayClass .long ∈ TB := tb_mem 44 (by decide +kernel) (by decide +kernel)
theorem wo_inst : Cond.instanceMethod objectInit ∈ TB := tb_mem 26 (by decide +kernel) (by decide +kernel)
theorem wo_code : Cond.code objectInit ⟨#[0xb1]⟩ 1 none ∈ TB := tb_mem 27 (by decide +kernel) (by decide +kernel)
theorem ti_La_51 : IW "CertificateDeskLaw" 51 y_De_init b_De_init 1 0 := ⟨k_De_init, tb_mem 1 (by decide +kernel) (by decide +kernel), ⟨by decide, by decide⟩, by decide +kernel, rfl, tb_mem 23 (by decide +kernel) (by decide +kernel), Or.inl (tb_mem 22 (by decide +kernel) (by decide +kernel))⟩
theorem wo_De_1 : Cond.methodLink "CertificateDesk" 1 objectInit ∈ TB := tb_mem 25 (by decide +kernel) (by decide +kernel)
theorem ti_De_9 : IW "CertificateDesk" 9 y_Nu_init b_Nu_init 3 1 := ⟨k_Nu_init, tb_mem 2 (by decide +kernel) (by decide +kernel), ⟨by decide, by decide⟩, by decide +kernel, rfl, tb_mem 31 (by decide +kernel) (by decide +kernel), Or.inl (tb_mem 30 (by decide +kernel) (by decide +kernel))⟩
theorem wo_Nu_1 : Cond.methodLink "CertificateDesk$Numbers" 1 objectInit ∈ TB := tb_mem 33 (by decide +kernel) (by decide +kernel)
theorem ti_De_26 : IW "CertificateDesk" 26 y_Li_init b_Li_init 2 1 := ⟨k_Li_init, tb_mem 4 (by decide +kernel) (by decide +kernel), ⟨by decide, by decide⟩, by decide +kernel, rfl, tb_mem 49 (by decide +kernel) (by decide +kernel), Or.inl (tb_mem 48 (by decide +kernel) (by decide +kernel))⟩
theorem wo_Li_1 : Cond.methodLink "CertificateDesk$Lines" 1 objectInit ∈ TB := tb_mem 51 (by decide +kernel) (by decide +kernel)
theorem ti_Li_21 : IW "CertificateDesk$Lines" 21 y_Nu_init b_Nu_init 3 1 := ⟨k_Nu_init, tb_mem 2 (by decide +kernel) (by decide +kernel), ⟨by decide, by decide⟩, by decide +kernel, rfl, tb_mem 31 (by decide +kernel) (by decide +kernel), Or.inl (tb_mem 54 (by decide +kernel) (by decide +kernel))⟩
theorem ti_De_36 : IW "CertificateDesk" 36 y_Ce_init b_Ce_init 3 1 := ⟨k_Ce_init, tb_mem 5 (by decide +kernel) (by decide +kernel), ⟨by decide, by decide⟩, by decide +kernel, rfl, tb_mem 78 (by decide +kernel) (by decide +kernel), Or.inl (tb_mem 77 (by decide +kernel) (by decide +kernel))⟩
theorem wo_Ce_1 : Cond.methodLink "CertificateDesk$Cells" 1 objectInit ∈ TB := tb_mem 80 (by decide +kernel) (by decide +kernel)
theorem ti_Ce_24 : IW "CertificateDesk$Cells" 24 y_Nu_init b_Nu_init 3 1 := ⟨k_Nu_init, tb_mem 2 (by decide +kernel) (by decide +kernel), ⟨by decide, by decide⟩, by decide +kernel, rfl, tb_mem 31 (by decide +kernel) (by decide +kernel), Or.inl (tb_mem 83 (by decide +kernel) (by decide +kernel))⟩
theorem wo_Pr_1 : Cond.methodLink "CertificateDesk$Product" 1 objectInit ∈ TB := tb_mem 104 (by decide +kernel) (by decide +kernel)
theorem wo_Ex_3 : Cond.methodLink "CertificateDesk$Exact" 3 objectInit ∈ TB := tb_mem 123 (by decide +kernel) (by decide +kernel)
theorem ti_La_54 : IW "CertificateDeskLaw" 54 y_Mo_init b_Mo_init 1 0 := ⟨k_Mo_init, tb_mem 8 (by decide +kernel) (by decide +kernel), ⟨by decide, by decide⟩, by decide +kernel, rfl, tb_mem 598 (by decide +kernel) (by decide +kernel), Or.inl (tb_mem 597 (by decide +kernel) (by decide +kernel))⟩
theorem wo_Mo_1 : Cond.methodLink "CertificateDeskModel" 1 objectInit ∈ TB := tb_mem 600 (by decide +kernel) (by decide +kernel)
theorem ti_De_46 : IW "CertificateDesk" 46 y_Pr_init b_Pr_init 1 0 := ⟨k_Pr_init, tb_mem 6 (by decide +kernel) (by decide +kernel), ⟨by decide, by decide⟩, by decide +kernel, rfl, tb_mem 102 (by decide +kernel) (by decide +kernel), Or.inr ⟨_, List.mem_of_getElem? (i := 9) rfl⟩⟩
theorem ti_De_53 : IW "CertificateDesk" 53 y_Ex_init b_Ex_init 1 0 := ⟨k_Ex_init, tb_mem 7 (by decide +kernel) (by decide +kernel), ⟨by decide, by decide⟩, by decide +kernel, rfl, tb_mem 121 (by decide +kernel) (by decide +kernel), Or.inr ⟨_, List.mem_of_getElem? (i := 10) rfl⟩⟩
set_option maxHeartbeats 4000000 in
set_option maxRecDepth 100000 in
theorem c_Nu_init_1 (l : Launch) (D : va_G) (aC : Nat → ClassId) (b : Nat) : IT l D aC y_Nu_init (rx 1 40 2 2) 2 2 [.ref b, .int (iI 1)] [(b, .inr (0, [.null, .null]))] (fun w => ∃ q1 q2 : Nat, w = [(b, .inr (0, [.ref q1, .ref q2])), (q1, eJ aC 1 (fun _ => 0)), (q2, eI aC 1 (fun _ => 0))]) := by
  refine IT.of (cc := b_Nu_init) (maxL := 3) (by decide +kernel) k_Nu_init rfl (Nat.le_of_ble_eq_true rfl) ?_
  intro p e s m below meth c Q S hr hlocks hin hQ hK hN hP hD hS ls hl
  obtain ⟨hx, hb, hml, hown, hts⟩ := id S
  have hA : ∀ q, s.heap.size ≤ q → va_A [(b, .inr (0, [.null, .null]))] s.heap.size q := fun q h => Or.inr h
  have hl : lv_has ls 3 [(0, .ref b), (1, .int (iI 1))] := hl
  refine lv_aload_n hx hb d_Nu_init_0 rfl (lv_at hl 0 rfl) ?_
  refine W.objInit hx hb hown (hts _ wo_Nu_1) (hts _ wo_inst) (hts _ wo_code) rfl (by rw [hml]; exact hl.1) rfl d_Nu_init_1 (Nat.le_of_ble_eq_true rfl) (Nat.le_of_ble_eq_true rfl) ?_
  refine W.eq (g2 := F0 m 4 ls []) rfl ?_
  refine lv_iload_n hx hb d_Nu_init_4 rfl (lv_at hl 1 rfl) ?_
  refine lv_iconst (v := iI 0) hx hb d_Nu_init_5 rfl ?_
  refine y_callS1 (V := .int (iI (max 1 0))) S (c_max l D aC 1 0 (by omega) (by omega)) t_Nu_7 (rm_okx (by decide) (by decide)) hK hN hP [] rfl rfl hl.1 rfl (Nat.le_of_ble_eq_true rfl) d_Nu_init_6 ⟨by decide, by decide⟩ ?_
  refine x_top (max 1 0) 1 (by decide) ?_
  refine lv_istore_n (lv' := [(2, .int (iI 1)), (0, .ref b), (1, .int (iI 1))]) hx hb d_Nu_init_9 rfl hl (by decide) rfl (fun ls hl => ?_)
  refine lv_aload_n hx hb d_Nu_init_10 rfl (lv_at hl 1 rfl) ?_
  refine lv_iload_n hx hb d_Nu_init_11 rfl (lv_at hl 0 rfl) ?_
  refine x_newa (atype := .long) (ty := .long) hx hb rfl (hts _ wa_J) hK hP hD hS hA 1 rfl (fun _ _ h => h) (fun x => nw_J x 1) (by decide) (by decide) (by decide) (by decide) d_Nu_init_12 (fun q12 H hP hD hS => ?_)
  have hP : va_P D CL [(b, .inr (0, [.null, .null])), (q12, eJ aC 1 (fun _ => 0))] H := hP
  have hD : va_D (va_A [(b, .inr (0, [.null, .null]))] s.heap.size) [(b, .inr (0, [.null, .null])), (q12, eJ aC 1 (fun _ => 0))] := hD
  refine va_putF (D := D) (ci := 0) (v := .ref q12) (ty := (.array .long)) (C := R_Nu) (T := F_Nu) (N := 2) hx hb hts i_Nu t_Nu t_Nu_ok n_Nu hown hK hP hD hS 0 rfl rfl 0 (by decide) (hts _ wf_Nu_13) (fun _ h9 => h9) rfl hin rfl (by decide +kernel) rfl rfl (Nat.le_of_ble_eq_true rfl) d_Nu_init_14 (fun H locs hP hD hS => ?_)
  have hP : va_P D CL [(b, .inr (0, [.ref q12, .null])), (q12, eJ aC 1 (fun _ => 0))] H := hP
  have hD : va_D (va_A [(b, .inr (0, [.null, .null]))] s.heap.size) [(b, .inr (0, [.ref q12, .null])), (q12, eJ aC 1 (fun _ => 0))] := hD
  refine lv_aload_n hx hb d_Nu_init_17 rfl (lv_at hl 1 rfl) ?_
  refine lv_iload_n hx hb d_Nu_init_18 rfl (lv_at hl 0 rfl) ?_
  refine x_newa (atype := .int) (ty := .int) hx hb rfl (hts _ wa_I) hK hP hD hS hA 0 rfl (fun _ _ h => h) (fun x => nw_I x 1) (by decide) (by decide) (by decide) (by decide) d_Nu_init_19 (fun q19 H hP hD hS => ?_)
  have hP : va_P D CL [(b, .inr (0, [.ref q12, .null])), (q12, eJ aC 1 (fun _ => 0)), (q19, eI aC 1 (fun _ => 0))] H := hP
  have hD : va_D (va_A [(b, .inr (0, [.null, .null]))] s.heap.size) [(b, .inr (0, [.ref q12, .null])), (q12, eJ aC 1 (fun _ => 0)), (q19, eI aC 1 (fun _ => 0))] := hD
  refine va_putF (D := D) (ci := 0) (v := .ref q19) (ty := (.array .int)) (C := R_Nu) (T := F_Nu) (N := 2) hx hb hts i_Nu t_Nu t_Nu_ok n_Nu hown hK hP hD hS 0 rfl rfl 1 (by decide) (hts _ wf_Nu_19) (fun _ h9 => h9) rfl hin rfl (by decide +kernel) rfl rfl (Nat.le_of_ble_eq_true rfl) d_Nu_init_21 (fun H locs hP hD hS => ?_)
  have hP : va_P D CL [(b, .inr (0, [.ref q12, .ref q19])), (q12, eJ aC 1 (fun _ => 0)), (q19, eI aC 1 (fun _ => 0))] H := hP
  have hD : va_D (va_A [(b, .inr (0, [.null, .null]))] s.heap.size) [(b, .inr (0, [.ref q12, .ref q19])), (q12, eJ aC 1 (fun _ => 0)), (q19, eI aC 1 (fun _ => 0))] := hD
  exact x_ivret hx hb hr hlocks hQ ⟨by decide, by decide⟩ (⟨q12, q19, rfl⟩) hP hD hS d_Nu_init_24
set_option maxHeartbeats 4000000 in
set_option maxRecDepth 100000 in
theorem c_Nu_init_12 (l : Launch) (D : va_G) (aC : Nat → ClassId) (b : Nat) : IT l D aC y_Nu_init (rx 1 40 2 24) 2 24 [.ref b, .int (iI 12)] [(b, .inr (0, [.null, .null]))] (fun w => ∃ q1 q2 : Nat, w = [(b, .inr (0, [.ref q1, .ref q2])), (q1, eJ aC 12 (fun _ => 0)), (q2, eI aC 12 (fun _ => 0))]) := by
  refine IT.of (cc := b_Nu_init) (maxL := 3) (by decide +kernel) k_Nu_init rfl (Nat.le_of_ble_eq_true rfl) ?_
  intro p e s m below meth c Q S hr hlocks hin hQ hK hN hP hD hS ls hl
  obtain ⟨hx, hb, hml, hown, hts⟩ := id S
  have hA : ∀ q, s.heap.size ≤ q → va_A [(b, .inr (0, [.null, .null]))] s.heap.size q := fun q h => Or.inr h
  have hl : lv_has ls 3 [(0, .ref b), (1, .int (iI 12))] := hl
  refine lv_aload_n hx hb d_Nu_init_0 rfl (lv_at hl 0 rfl) ?_
  refine W.objInit hx hb hown (hts _ wo_Nu_1) (hts _ wo_inst) (hts _ wo_code) rfl (by rw [hml]; exact hl.1) rfl d_Nu_init_1 (Nat.le_of_ble_eq_true rfl) (Nat.le_of_ble_eq_true rfl) ?_
  refine W.eq (g2 := F0 m 4 ls []) rfl ?_
  refine lv_iload_n hx hb d_Nu_init_4 rfl (lv_at hl 1 rfl) ?_
  refine lv_iconst (v := iI 0) hx hb d_Nu_init_5 rfl ?_
  refine y_callS1 (V := .int (iI (max 12 0))) S (c_max l D aC 12 0 (by omega) (by omega)) t_Nu_7 (rm_okx (by decide) (by decide)) hK hN hP [] rfl rfl hl.1 rfl (Nat.le_of_ble_eq_true rfl) d_Nu_init_6 ⟨by decide, by decide⟩ ?_
  refine x_top (max 12 0) 12 (by decide) ?_
  refine lv_istore_n (lv' := [(2, .int (iI 12)), (0, .ref b), (1, .int (iI 12))]) hx hb d_Nu_init_9 rfl hl (by decide) rfl (fun ls hl => ?_)
  refine lv_aload_n hx hb d_Nu_init_10 rfl (lv_at hl 1 rfl) ?_
  refine lv_iload_n hx hb d_Nu_init_11 rfl (lv_at hl 0 rfl) ?_
  refine x_newa (atype := .long) (ty := .long) hx hb rfl (hts _ wa_J) hK hP hD hS hA 1 rfl (fun _ _ h => h) (fun x => nw_J x 12) (by decide) (by decide) (by decide) (by decide) d_Nu_init_12 (fun q12 H hP hD hS => ?_)
  have hP : va_P D CL [(b, .inr (0, [.null, .null])), (q12, eJ aC 12 (fun _ => 0))] H := hP
  have hD : va_D (va_A [(b, .inr (0, [.null, .null]))] s.heap.size) [(b, .inr (0, [.null, .null])), (q12, eJ aC 12 (fun _ => 0))] := hD
  refine va_putF (D := D) (ci := 0) (v := .ref q12) (ty := (.array .long)) (C := R_Nu) (T := F_Nu) (N := 2) hx hb hts i_Nu t_Nu t_Nu_ok n_Nu hown hK hP hD hS 0 rfl rfl 0 (by decide) (hts _ wf_Nu_13) (fun _ h9 => h9) rfl hin rfl (by decide +kernel) rfl rfl (Nat.le_of_ble_eq_true rfl) d_Nu_init_14 (fun H locs hP hD hS => ?_)
  have hP : va_P D CL [(b, .inr (0, [.ref q12, .null])), (q12, eJ aC 12 (fun _ => 0))] H := hP
  have hD : va_D (va_A [(b, .inr (0, [.null, .null]))] s.heap.size) [(b, .inr (0, [.ref q12, .null])), (q12, eJ aC 12 (fun _ => 0))] := hD
  refine lv_aload_n hx hb d_Nu_init_17 rfl (lv_at hl 1 rfl) ?_
  refine lv_iload_n hx hb d_Nu_init_18 rfl (lv_at hl 0 rfl) ?_
  refine x_newa (atype := .int) (ty := .int) hx hb rfl (hts _ wa_I) hK hP hD hS hA 0 rfl (fun _ _ h => h) (fun x => nw_I x 12) (by decide) (by decide) (by decide) (by decide) d_Nu_init_19 (fun q19 H hP hD hS => ?_)
  have hP : va_P D CL [(b, .inr (0, [.ref q12, .null])), (q12, eJ aC 12 (fun _ => 0)), (q19, eI aC 12 (fun _ => 0))] H := hP
  have hD : va_D (va_A [(b, .inr (0, [.null, .null]))] s.heap.size) [(b, .inr (0, [.ref q12, .null])), (q12, eJ aC 12 (fun _ => 0)), (q19, eI aC 12 (fun _ => 0))] := hD
  refine va_putF (D := D) (ci := 0) (v := .ref q19) (ty := (.array .int)) (C := R_Nu) (T := F_Nu) (N := 2) hx hb hts i_Nu t_Nu t_Nu_ok n_Nu hown hK hP hD hS 0 rfl rfl 1 (by decide) (hts _ wf_Nu_19) (fun _ h9 => h9) rfl hin rfl (by decide +kernel) rfl rfl (Nat.le_of_ble_eq_true rfl) d_Nu_init_21 (fun H locs hP hD hS => ?_)
  have hP : va_P D CL [(b, .inr (0, [.ref q12, .ref q19])), (q12, eJ aC 12 (fun _ => 0)), (q19, eI aC 12 (fun _ => 0))] H := hP
  have hD : va_D (va_A [(b, .inr (0, [.null, .null]))] s.heap.size) [(b, .inr (0, [.ref q12, .ref q19])), (q12, eJ aC 12 (fun _ => 0)), (q19, eI aC 12 (fun _ => 0))] := hD
  exact x_ivret hx hb hr hlocks hQ ⟨by decide, by decide⟩ (⟨q12, q19, rfl⟩) hP hD hS d_Nu_init_24
set_option maxHeartbeats 4000000 in
set_option maxRecDepth 100000 in
theorem c_Nu_init_16 (l : Launch) (D : va_G) (aC : Nat → ClassId) (b : Nat) : IT l D aC y_Nu_init (rx 1 40 2 32) 2 32 [.ref b, .int (iI 16)] [(b, .inr (0, [.null, .null]))] (fun w => ∃ q1 q2 : Nat, w = [(b, .inr (0, [.ref q1, .ref q2])), (q1, eJ aC 16 (fun _ => 0)), (q2, eI aC 16 (fun _ => 0))]) := by
  refine IT.of (cc := b_Nu_init) (maxL := 3) (by decide +kernel) k_Nu_init rfl (Nat.le_of_ble_eq_true rfl) ?_
  intro p e s m below meth c Q S hr hlocks hin hQ hK hN hP hD hS ls hl
  obtain ⟨hx, hb, hml, hown, hts⟩ := id S
  have hA : ∀ q, s.heap.size ≤ q → va_A [(b, .inr (0, [.null, .null]))] s.heap.size q := fun q h => Or.inr h
  have hl : lv_has ls 3 [(0, .ref b), (1, .int (iI 16))] := hl
  refine lv_aload_n hx hb d_Nu_init_0 rfl (lv_at hl 0 rfl) ?_
  refine W.objInit hx hb hown (hts _ wo_Nu_1) (hts _ wo_inst) (hts _ wo_code) rfl (by rw [hml]; exact hl.1) rfl d_Nu_init_1 (Nat.le_of_ble_eq_true rfl) (Nat.le_of_ble_eq_true rfl) ?_
  refine W.eq (g2 := F0 m 4 ls []) rfl ?_
  refine lv_iload_n hx hb d_Nu_init_4 rfl (lv_at hl 1 rfl) ?_
  refine lv_iconst (v := iI 0) hx hb d_Nu_init_5 rfl ?_
  refine y_callS1 (V := .int (iI (max 16 0))) S (c_max l D aC 16 0 (by omega) (by omega)) t_Nu_7 (rm_okx (by decide) (by decide)) hK hN hP [] rfl rfl hl.1 rfl (Nat.le_of_ble_eq_true rfl) d_Nu_init_6 ⟨by decide, by decide⟩ ?_
  refine x_top (max 16 0) 16 (by decide) ?_
  refine lv_istore_n (lv' := [(2, .int (iI 16)), (0, .ref b), (1, .int (iI 16))]) hx hb d_Nu_init_9 rfl hl (by decide) rfl (fun ls hl => ?_)
  refine lv_aload_n hx hb d_Nu_init_10 rfl (lv_at hl 1 rfl) ?_
  refine lv_iload_n hx hb d_Nu_init_11 rfl (lv_at hl 0 rfl) ?_
  refine x_newa (atype := .long) (ty := .long) hx hb rfl (hts _ wa_J) hK hP hD hS hA 1 rfl (fun _ _ h => h) (fun x => nw_J x 16) (by decide) (by decide) (by decide) (by decide) d_Nu_init_12 (fun q12 H hP hD hS => ?_)
  have hP : va_P D CL [(b, .inr (0, [.null, .null])), (q12, eJ aC 16 (fun _ => 0))] H := hP
  have hD : va_D (va_A [(b, .inr (0, [.null, .null]))] s.heap.size) [(b, .inr (0, [.null, .null])), (q12, eJ aC 16 (fun _ => 0))] := hD
  refine va_putF (D := D) (ci := 0) (v := .ref q12) (ty := (.array .long)) (C := R_Nu) (T := F_Nu) (N := 2) hx hb hts i_Nu t_Nu t_Nu_ok n_Nu hown hK hP hD hS 0 rfl rfl 0 (by decide) (hts _ wf_Nu_13) (fun _ h9 => h9) rfl hin rfl (by decide +kernel) rfl rfl (Nat.le_of_ble_eq_true rfl) d_Nu_init_14 (fun H locs hP hD hS => ?_)
  have hP : va_P D CL [(b, .inr (0, [.ref q12, .null])), (q12, eJ aC 16 (fun _ => 0))] H := hP
  have hD : va_D (va_A [(b, .inr (0, [.null, .null]))] s.heap.size) [(b, .inr (0, [.ref q12, .null])), (q12, eJ aC 16 (fun _ => 0))] := hD
  refine lv_aload_n hx hb d_Nu_init_17 rfl (lv_at hl 1 rfl) ?_
  refine lv_iload_n hx hb d_Nu_init_18 rfl (lv_at hl 0 rfl) ?_
  refine x_newa (atype := .int) (ty := .int) hx hb rfl (hts _ wa_I) hK hP hD hS hA 0 rfl (fun _ _ h => h) (fun x => nw_I x 16) (by decide) (by decide) (by decide) (by decide) d_Nu_init_19 (fun q19 H hP hD hS => ?_)
  have hP : va_P D CL [(b, .inr (0, [.ref q12, .null])), (q12, eJ aC 16 (fun _ => 0)), (q19, eI aC 16 (fun _ => 0))] H := hP
  have hD : va_D (va_A [(b, .inr (0, [.null, .null]))] s.heap.size) [(b, .inr (0, [.ref q12, .null])), (q12, eJ aC 16 (fun _ => 0)), (q19, eI aC 16 (fun _ => 0))] := hD
  refine va_putF (D := D) (ci := 0) (v := .ref q19) (ty := (.array .int)) (C := R_Nu) (T := F_Nu) (N := 2) hx hb hts i_Nu t_Nu t_Nu_ok n_Nu hown hK hP hD hS 0 rfl rfl 1 (by decide) (hts _ wf_Nu_19) (fun _ h9 => h9) rfl hin rfl (by decide +kernel) rfl rfl (Nat.le_of_ble_eq_true rfl) d_Nu_init_21 (fun H locs hP hD hS => ?_)
  have hP : va_P D CL [(b, .inr (0, [.ref q12, .ref q19])), (q12, eJ aC 16 (fun _ => 0)), (q19, eI aC 16 (fun _ => 0))] H := hP
  have hD : va_D (va_A [(b, .inr (0, [.null, .null]))] s.heap.size) [(b, .inr (0, [.ref q12, .ref q19])), (q12, eJ aC 16 (fun _ => 0)), (q19, eI aC 16 (fun _ => 0))] := hD
  exact x_ivret hx hb hr hlocks hQ ⟨by decide, by decide⟩ (⟨q12, q19, rfl⟩) hP hD hS d_Nu_init_24
set_option maxHeartbeats 4000000 in
set_option maxRecDepth 100000 in
theorem c_Nu_init_60 (l : Launch) (D : va_G) (aC : Nat → ClassId) (b : Nat) : IT l D aC y_Nu_init (rx 1 40 2 120) 2 120 [.ref b, .int (iI 60)] [(b, .inr (0, [.null, .null]))] (fun w => ∃ q1 q2 : Nat, w = [(b, .inr (0, [.ref q1, .ref q2])), (q1, eJ aC 60 (fun _ => 0)), (q2, eI aC 60 (fun _ => 0))]) := by
  refine IT.of (cc := b_Nu_init) (maxL := 3) (by decide +kernel) k_Nu_init rfl (Nat.le_of_ble_eq_true rfl) ?_
  intro p e s m below meth c Q S hr hlocks hin hQ hK hN hP hD hS ls hl
  obtain ⟨hx, hb, hml, hown, hts⟩ := id S
  have hA : ∀ q, s.heap.size ≤ q → va_A [(b, .inr (0, [.null, .null]))] s.heap.size q := fun q h => Or.inr h
  have hl : lv_has ls 3 [(0, .ref b), (1, .int (iI 60))] := hl
  refine lv_aload_n hx hb d_Nu_init_0 rfl (lv_at hl 0 rfl) ?_
  refine W.objInit hx hb hown (hts _ wo_Nu_1) (hts _ wo_inst) (hts _ wo_code) rfl (by rw [hml]; exact hl.1) rfl d_Nu_init_1 (Nat.le_of_ble_eq_true rfl) (Nat.le_of_ble_eq_true rfl) ?_
  refine W.eq (g2 := F0 m 4 ls []) rfl ?_
  refine lv_iload_n hx hb d_Nu_init_4 rfl (lv_at hl 1 rfl) ?_
  refine lv_iconst (v := iI 0) hx hb d_Nu_init_5 rfl ?_
  refine y_callS1 (V := .int (iI (max 60 0))) S (c_max l D aC 60 0 (by omega) (by omega)) t_Nu_7 (rm_okx (by decide) (by decide)) hK hN hP [] rfl rfl hl.1 rfl (Nat.le_of_ble_eq_true rfl) d_Nu_init_6 ⟨by decide, by decide⟩ ?_
  refine x_top (max 60 0) 60 (by decide) ?_
  refine lv_istore_n (lv' := [(2, .int (iI 60)), (0, .ref b), (1, .int (iI 60))]) hx hb d_Nu_init_9 rfl hl (by decide) rfl (fun ls hl => ?_)
  refine lv_aload_n hx hb d_Nu_init_10 rfl (lv_at hl 1 rfl) ?_
  refine lv_iload_n hx hb d_Nu_init_11 rfl (lv_at hl 0 rfl) ?_
  refine x_newa (atype := .long) (ty := .long) hx hb rfl (hts _ wa_J) hK hP hD hS hA 1 rfl (fun _ _ h => h) (fun x => nw_J x 60) (by decide) (by decide) (by decide) (by decide) d_Nu_init_12 (fun q12 H hP hD hS => ?_)
  have hP : va_P D CL [(b, .inr (0, [.null, .null])), (q12, eJ aC 60 (fun _ => 0))] H := hP
  have hD : va_D (va_A [(b, .inr (0, [.null, .null]))] s.heap.size) [(b, .inr (0, [.null, .null])), (q12, eJ aC 60 (fun _ => 0))] := hD
  refine va_putF (D := D) (ci := 0) (v := .ref q12) (ty := (.array .long)) (C := R_Nu) (T := F_Nu) (N := 2) hx hb hts i_Nu t_Nu t_Nu_ok n_Nu hown hK hP hD hS 0 rfl rfl 0 (by decide) (hts _ wf_Nu_13) (fun _ h9 => h9) rfl hin rfl (by decide +kernel) rfl rfl (Nat.le_of_ble_eq_true rfl) d_Nu_init_14 (fun H locs hP hD hS => ?_)
  have hP : va_P D CL [(b, .inr (0, [.ref q12, .null])), (q12, eJ aC 60 (fun _ => 0))] H := hP
  have hD : va_D (va_A [(b, .inr (0, [.null, .null]))] s.heap.size) [(b, .inr (0, [.ref q12, .null])), (q12, eJ aC 60 (fun _ => 0))] := hD
  refine lv_aload_n hx hb d_Nu_init_17 rfl (lv_at hl 1 rfl) ?_
  refine lv_iload_n hx hb d_Nu_init_18 rfl (lv_at hl 0 rfl) ?_
  refine x_newa (atype := .int) (ty := .int) hx hb rfl (hts _ wa_I) hK hP hD hS hA 0 rfl (fun _ _ h => h) (fun x => nw_I x 60) (by decide) (by decide) (by decide) (by decide) d_Nu_init_19 (fun q19 H hP hD hS => ?_)
  have hP : va_P D CL [(b, .inr (0, [.ref q12, .null])), (q12, eJ aC 60 (fun _ => 0)), (q19, eI aC 60 (fun _ => 0))] H := hP
  have hD : va_D (va_A [(b, .inr (0, [.null, .null]))] s.heap.size) [(b, .inr (0, [.ref q12, .null])), (q12, eJ aC 60 (fun _ => 0)), (q19, eI aC 60 (fun _ => 0))] := hD
  refine va_putF (D := D) (ci := 0) (v := .ref q19) (ty := (.array .int)) (C := R_Nu) (T := F_Nu) (N := 2) hx hb hts i_Nu t_Nu t_Nu_ok n_Nu hown hK hP hD hS 0 rfl rfl 1 (by decide) (hts _ wf_Nu_19) (fun _ h9 => h9) rfl hin rfl (by decide +kernel) rfl rfl (Nat.le_of_ble_eq_true rfl) d_Nu_init_21 (fun H locs hP hD hS => ?_)
  have hP : va_P D CL [(b, .inr (0, [.ref q12, .ref q19])), (q12, eJ aC 60 (fun _ => 0)), (q19, eI aC 60 (fun _ => 0))] H := hP
  have hD : va_D (va_A [(b, .inr (0, [.null, .null]))] s.heap.size) [(b, .inr (0, [.ref q12, .ref q19])), (q12, eJ aC 60 (fun _ => 0)), (q19, eI aC 60 (fun _ => 0))] := hD
  exact x_ivret hx hb hr hlocks hQ ⟨by decide, by decide⟩ (⟨q12, q19, rfl⟩) hP hD hS d_Nu_init_24
set_option maxHeartbeats 4000000 in
set_option maxRecDepth 100000 in
theorem c_Nu_init_100 (l : Launch) (D : va_G) (aC : Nat → ClassId) (b : Nat) : IT l D aC y_Nu_init (rx 1 40 2 200) 2 200 [.ref b, .int (iI 100)] [(b, .inr (0, [.null, .null]))] (fun w => ∃ q1 q2 : Nat, w = [(b, .inr (0, [.ref q1, .ref q2])), (q1, eJ aC 100 (fun _ => 0)), (q2, eI aC 100 (fun _ => 0))]) := by
  refine IT.of (cc := b_Nu_init) (maxL := 3) (by decide +kernel) k_Nu_init rfl (Nat.le_of_ble_eq_true rfl) ?_
  intro p e s m below meth c Q S hr hlocks hin hQ hK hN hP hD hS ls hl
  obtain ⟨hx, hb, hml, hown, hts⟩ := id S
  have hA : ∀ q, s.heap.size ≤ q → va_A [(b, .inr (0, [.null, .null]))] s.heap.size q := fun q h => Or.inr h
  have hl : lv_has ls 3 [(0, .ref b), (1, .int (iI 100))] := hl
  refine lv_aload_n hx hb d_Nu_init_0 rfl (lv_at hl 0 rfl) ?_
  refine W.objInit hx hb hown (hts _ wo_Nu_1) (hts _ wo_inst) (hts _ wo_code) rfl (by rw [hml]; exact hl.1) rfl d_Nu_init_1 (Nat.le_of_ble_eq_true rfl) (Nat.le_of_ble_eq_true rfl) ?_
  refine W.eq (g2 := F0 m 4 ls []) rfl ?_
  refine lv_iload_n hx hb d_Nu_init_4 rfl (lv_at hl 1 rfl) ?_
  refine lv_iconst (v := iI 0) hx hb d_Nu_init_5 rfl ?_
  refine y_callS1 (V := .int (iI (max 100 0))) S (c_max l D aC 100 0 (by omega) (by omega)) t_Nu_7 (rm_okx (by decide) (by decide)) hK hN hP [] rfl rfl hl.1 rfl (Nat.le_of_ble_eq_true rfl) d_Nu_init_6 ⟨by decide, by decide⟩ ?_
  refine x_top (max 100 0) 100 (by decide) ?_
  refine lv_istore_n (lv' := [(2, .int (iI 100)), (0, .ref b), (1, .int (iI 100))]) hx hb d_Nu_init_9 rfl hl (by decide) rfl (fun ls hl => ?_)
  refine lv_aload_n hx hb d_Nu_init_10 rfl (lv_at hl 1 rfl) ?_
  refine lv_iload_n hx hb d_Nu_init_11 rfl (lv_at hl 0 rfl) ?_
  refine x_newa (atype := .long) (ty := .long) hx hb rfl (hts _ wa_J) hK hP hD hS hA 1 rfl (fun _ _ h => h) (fun x => nw_J x 100) (by decide) (by decide) (by decide) (by decide) d_Nu_init_12 (fun q12 H hP hD hS => ?_)
  have hP : va_P D CL [(b, .inr (0, [.null, .null])), (q12, eJ aC 100 (fun _ => 0))] H := hP
  have hD : va_D (va_A [(b, .inr (0, [.null, .null]))] s.heap.size) [(b, .inr (0, [.null, .null])), (q12, eJ aC 100 (fun _ => 0))] := hD
  refine va_putF (D := D) (ci := 0) (v := .ref q12) (ty := (.array .long)) (C := R_Nu) (T := F_Nu) (N := 2) hx hb hts i_Nu t_Nu t_Nu_ok n_Nu hown hK hP hD hS 0 rfl rfl 0 (by decide) (hts _ wf_Nu_13) (fun _ h9 => h9) rfl hin rfl (by decide +kernel) rfl rfl (Nat.le_of_ble_eq_true rfl) d_Nu_init_14 (fun H locs hP hD hS => ?_)
  have hP : va_P D CL [(b, .inr (0, [.ref q12, .null])), (q12, eJ aC 100 (fun _ => 0))] H := hP
  have hD : va_D (va_A [(b, .inr (0, [.null, .null]))] s.heap.size) [(b, .inr (0, [.ref q12, .null])), (q12, eJ aC 100 (fun _ => 0))] := hD
  refine lv_aload_n hx hb d_Nu_init_17 rfl (lv_at hl 1 rfl) ?_
  refine lv_iload_n hx hb d_Nu_init_18 rfl (lv_at hl 0 rfl) ?_
  refine x_newa (atype := .int) (ty := .int) hx hb rfl (hts _ wa_I) hK hP hD hS hA 0 rfl (fun _ _ h => h) (fun x => nw_I x 100) (by decide) (by decide) (by decide) (by decide) d_Nu_init_19 (fun q19 H hP hD hS => ?_)
  have hP : va_P D CL [(b, .inr (0, [.ref q12, .null])), (q12, eJ aC 100 (fun _ => 0)), (q19, eI aC 100 (fun _ => 0))] H := hP
  have hD : va_D (va_A [(b, .inr (0, [.null, .null]))] s.heap.size) [(b, .inr (0, [.ref q12, .null])), (q12, eJ aC 100 (fun _ => 0)), (q19, eI aC 100 (fun _ => 0))] := hD
  refine va_putF (D := D) (ci := 0) (v := .ref q19) (ty := (.array .int)) (C := R_Nu) (T := F_Nu) (N := 2) hx hb hts i_Nu t_Nu t_Nu_ok n_Nu hown hK hP hD hS 0 rfl rfl 1 (by decide) (hts _ wf_Nu_19) (fun _ h9 => h9) rfl hin rfl (by decide +kernel) rfl rfl (Nat.le_of_ble_eq_true rfl) d_Nu_init_21 (fun H locs hP hD hS => ?_)
  have hP : va_P D CL [(b, .inr (0, [.ref q12, .ref q19])), (q12, eJ aC 100 (fun _ => 0)), (q19, eI aC 100 (fun _ => 0))] H := hP
  have hD : va_D (va_A [(b, .inr (0, [.null, .null]))] s.heap.size) [(b, .inr (0, [.ref q12, .ref q19])), (q12, eJ aC 100 (fun _ => 0)), (q19, eI aC 100 (fun _ => 0))] := hD
  exact x_ivret hx hb hr hlocks hQ ⟨by decide, by decide⟩ (⟨q12, q19, rfl⟩) hP hD hS d_Nu_init_24
set_option maxHeartbeats 4000000 in
set_option maxRecDepth 100000 in
theorem c_Li_init_12 (l : Launch) (D : va_G) (aC : Nat → ClassId) (b : Nat) : IT l D aC y_Li_init (rx 2 62 10 90) 10 90 [.ref b, .int (iI 12)] [(b, .inr (1, [.null, .null, .null, .null, .int (iI 0)]))] (fun w => ∃ q1 q2 q3 q4 q5 q6 q7 q8 q9 q10 : Nat, w = [(b, .inr (1, [.ref q1, .ref q2, .ref q5, .ref q8, .int (iI 0)])), (q1, eI aC 12 (fun _ => 0)), (q2, .inr (0, [.ref q3, .ref q4])), (q3, eJ aC 12 (fun _ => 0)), (q4, eI aC 12 (fun _ => 0)), (q5, .inr (0, [.ref q6, .ref q7])), (q6, eJ aC 12 (fun _ => 0)), (q7, eI aC 12 (fun _ => 0)), (q8, .inr (0, [.ref q9, .ref q10])), (q9, eJ aC 12 (fun _ => 0)), (q10, eI aC 12 (fun _ => 0))]) := by
  refine IT.of (cc := b_Li_init) (maxL := 2) (by decide +kernel) k_Li_init rfl (Nat.le_of_ble_eq_true rfl) ?_
  intro p e s m below meth c Q S hr hlocks hin hQ hK hN hP hD hS ls hl
  obtain ⟨hx, hb, hml, hown, hts⟩ := id S
  have hA : ∀ q, s.heap.size ≤ q → va_A [(b, .inr (1, [.null, .null, .null, .null, .int (iI 0)]))] s.heap.size q := fun q h => Or.inr h
  have hl : lv_has ls 2 [(0, .ref b), (1, .int (iI 12))] := hl
  refine lv_aload_n hx hb d_Li_init_0 rfl (lv_at hl 0 rfl) ?_
  refine W.objInit hx hb hown (hts _ wo_Li_1) (hts _ wo_inst) (hts _ wo_code) rfl (by rw [hml]; exact hl.1) rfl d_Li_init_1 (Nat.le_of_ble_eq_true rfl) (Nat.le_of_ble_eq_true rfl) ?_
  refine W.eq (g2 := F0 m 4 ls []) rfl ?_
  refine lv_aload_n hx hb d_Li_init_4 rfl (lv_at hl 0 rfl) ?_
  refine lv_iload_n hx hb d_Li_init_5 rfl (lv_at hl 1 rfl) ?_
  refine lv_iconst (v := iI 0) hx hb d_Li_init_6 rfl ?_
  refine y_callS1 (V := .int (iI (max 12 0))) S (c_max l D aC 12 0 (by omega) (by omega)) t_Li_7 (rm_okx (by decide) (by decide)) hK hN hP [] rfl rfl hl.1 rfl (Nat.le_of_ble_eq_true rfl) d_Li_init_7 ⟨by decide, by decide⟩ ?_
  refine x_top (max 12 0) 12 (by decide) ?_
  refine x_newa (atype := .int) (ty := .int) hx hb rfl (hts _ wa_I) hK hP hD hS hA 0 rfl (fun _ _ h => h) (fun x => nw_I x 12) (by decide) (by decide) (by decide) (by decide) d_Li_init_10 (fun q10 H hP hD hS => ?_)
  have hP : va_P D CL [(b, .inr (1, [.null, .null, .null, .null, .int (iI 0)])), (q10, eI aC 12 (fun _ => 0))] H := hP
  have hD : va_D (va_A [(b, .inr (1, [.null, .null, .null, .null, .int (iI 0)]))] s.heap.size) [(b, .inr (1, [.null, .null, .null, .null, .int (iI 0)])), (q10, eI aC 12 (fun _ => 0))] := hD
  refine va_putF (D := D) (ci := 1) (v := .ref q10) (ty := (.array .int)) (C := R_Li) (T := F_Li) (N := 5) hx hb hts i_Li t_Li t_Li_ok n_Li hown hK hP hD hS 0 rfl rfl 0 (by decide) (hts _ wf_Li_13) (fun _ h9 => h9) rfl hin rfl (by decide +kernel) rfl rfl (Nat.le_of_ble_eq_true rfl) d_Li_init_12 (fun H locs hP hD hS => ?_)
  have hP : va_P D CL [(b, .inr (1, [.ref q10, .null, .null, .null, .int (iI 0)])), (q10, eI aC 12 (fun _ => 0))] H := hP
  have hD : va_D (va_A [(b, .inr (1, [.null, .null, .null, .null, .int (iI 0)]))] s.heap.size) [(b, .inr (1, [.ref q10, .null, .null, .null, .int (iI 0)])), (q10, eI aC 12 (fun _ => 0))] := hD
  refine lv_aload_n hx hb d_Li_init_15 rfl (lv_at hl 0 rfl) ?_
  refine va_new (ci := 0) (fs := [.null, .null]) (C := R_Nu) (T := F_Nu) (N := 2) hx hb hts i_Nu t_Nu t_Nu_ok hown (hts _ wl_Li_19) (hts _ wn_Nu) (hts _ wi_Nu) hK hP hD hS hA rfl (fun j hj => by
      match j, hj with
      | 0, _ => exact rfl
      | 1, _ => exact rfl
      | k + 2, h => exact absurd h (by omega)) (by decide) (by decide) d_Li_init_16 (fun q16 H hP hD hS => ?_)
  have hP : va_P D CL [(b, .inr (1, [.ref q10, .null, .null, .null, .int (iI 0)])), (q10, eI aC 12 (fun _ => 0)), (q16, .inr (0, [.null, .null]))] H := hP
  have hD : va_D (va_A [(b, .inr (1, [.null, .null, .null, .null, .int (iI 0)]))] s.heap.size) [(b, .inr (1, [.ref q10, .null, .null, .null, .int (iI 0)])), (q10, eI aC 12 (fun _ => 0)), (q16, .inr (0, [.null, .null]))] := hD
  refine lv_dup hx hb d_Li_init_19 rfl ?_
  refine lv_iload_n hx hb d_Li_init_20 rfl (lv_at hl 1 rfl) ?_
  refine x_callI (wr := [(b, .inr (1, [.ref q10, .null, .null, .null, .int (iI 0)])), (q10, eI aC 12 (fun _ => 0))]) S (c_Nu_init_12 l D aC q16) ti_Li_21 (rx_ok (by decide) (by decide)) hK hN hP hD hS hA [2] [0, 1] rfl rfl (by decide +kernel) (by decide +kernel) (by decide +kernel) rfl hl.1 rfl (Nat.le_of_ble_eq_true rfl) d_Li_init_21 ⟨by decide, by decide⟩ (fun w1 H locs hw hP hD hS => ?_)
  obtain ⟨u1_1, u2_1, rfl⟩ := hw
  have hP : va_P D CL [(b, .inr (1, [.ref q10, .null, .null, .null, .int (iI 0)])), (q10, eI aC 12 (fun _ => 0)), (q16, .inr (0, [.ref u1_1, .ref u2_1])), (u1_1, eJ aC 12 (fun _ => 0)), (u2_1, eI aC 12 (fun _ => 0))] H := hP
  have hD : va_D (va_A [(b, .inr (1, [.null, .null, .null, .null, .int (iI 0)]))] s.heap.size) [(b, .inr (1, [.ref q10, .null, .null, .null, .int (iI 0)])), (q10, eI aC 12 (fun _ => 0)), (q16, .inr (0, [.ref u1_1, .ref u2_1])), (u1_1, eJ aC 12 (fun _ => 0)), (u2_1, eI aC 12 (fun _ => 0))] := hD
  refine va_putF (D := D) (ci := 1) (v := .ref q16) (ty := .object "CertificateDesk$Numbers") (C := R_Li) (T := F_Li) (N := 5) hx hb hts i_Li t_Li t_Li_ok n_Li hown hK hP hD hS 0 rfl rfl 1 (by decide) (hts _ wf_Li_24) (fun _ h9 => h9) rfl hin rfl (by decide +kernel) rfl rfl (Nat.le_of_ble_eq_true rfl) d_Li_init_24 (fun H locs hP hD hS => ?_)
  have hP : va_P D CL [(b, .inr (1, [.ref q10, .ref q16, .null, .null, .int (iI 0)])), (q10, eI aC 12 (fun _ => 0)), (q16, .inr (0, [.ref u1_1, .ref u2_1])), (u1_1, eJ aC 12 (fun _ => 0)), (u2_1, eI aC 12 (fun _ => 0))] H := hP
  have hD : va_D (va_A [(b, .inr (1, [.null, .null, .null, .null, .int (iI 0)]))] s.heap.size) [(b, .inr (1, [.ref q10, .ref q16, .null, .null, .int (iI 0)])), (q10, eI aC 12 (fun _ => 0)), (q16, .inr (0, [.ref u1_1, .ref u2_1])), (u1_1, eJ aC 12 (fun _ => 0)), (u2_1, eI aC 12 (fun _ => 0))] := hD
  refine lv_aload_n hx hb d_Li_init_27 rfl (lv_at hl 0 rfl) ?_
  refine va_new (ci := 0) (fs := [.null, .null]) (C := R_Nu) (T := F_Nu) (N := 2) hx hb hts i_Nu t_Nu t_Nu_ok hown (hts _ wl_Li_19) (hts _ wn_Nu) (hts _ wi_Nu) hK hP hD hS hA rfl (fun j hj => by
      match j, hj with
      | 0, _ => exact rfl
      | 1, _ => exact rfl
      | k + 2, h => exact absurd h (by omega)) (by decide) (by decide) d_Li_init_28 (fun q28 H hP hD hS => ?_)
  have hP : va_P D CL [(b, .inr (1, [.ref q10, .ref q16, .null, .null, .int (iI 0)])), (q10, eI aC 12 (fun _ => 0)), (q16, .inr (0, [.ref u1_1, .ref u2_1])), (u1_1, eJ aC 12 (fun _ => 0)), (u2_1, eI aC 12 (fun _ => 0)), (q28, .inr (0, [.null, .null]))] H := hP
  have hD : va_D (va_A [(b, .inr (1, [.null, .null, .null, .null, .int (iI 0)]))] s.heap.size) [(b, .inr (1, [.ref q10, .ref q16, .null, .null, .int (iI 0)])), (q10, eI aC 12 (fun _ => 0)), (q16, .inr (0, [.ref u1_1, .ref u2_1])), (u1_1, eJ aC 12 (fun _ => 0)), (u2_1, eI aC 12 (fun _ => 0)), (q28, .inr (0, [.null, .null]))] := hD
  refine lv_dup hx hb d_Li_init_31 rfl ?_
  refine lv_iload_n hx hb d_Li_init_32 rfl (lv_at hl 1 rfl) ?_
  refine x_callI (wr := [(b, .inr (1, [.ref q10, .ref q16, .null, .null, .int (iI 0)])), (q10, eI aC 12 (fun _ => 0)), (q16, .inr (0, [.ref u1_1, .ref u2_1])), (u1_1, eJ aC 12 (fun _ => 0)), (u2_1, eI aC 12 (fun _ => 0))]) S (c_Nu_init_12 l D aC q28) ti_Li_21 (rx_ok (by decide) (by decide)) hK hN hP hD hS hA [5] [0, 1, 2, 3, 4] rfl rfl (by decide +kernel) (by decide +kernel) (by decide +kernel) rfl hl.1 rfl (Nat.le_of_ble_eq_true rfl) d_Li_init_33 ⟨by decide, by decide⟩ (fun w1 H locs hw hP hD hS => ?_)
  obtain ⟨u1_2, u2_2, rfl⟩ := hw
  have hP : va_P D CL [(b, .inr (1, [.ref q10, .ref q16, .null, .null, .int (iI 0)])), (q10, eI aC 12 (fun _ => 0)), (q16, .inr (0, [.ref u1_1, .ref u2_1])), (u1_1, eJ aC 12 (fun _ => 0)), (u2_1, eI aC 12 (fun _ => 0)), (q28, .inr (0, [.ref u1_2, .ref u2_2])), (u1_2, eJ aC 12 (fun _ => 0)), (u2_2, eI aC 12 (fun _ => 0))] H := hP
  have hD : va_D (va_A [(b, .inr (1, [.null, .null, .null, .null, .int (iI 0)]))] s.heap.size) [(b, .inr (1, [.ref q10, .ref q16, .null, .null, .int (iI 0)])), (q10, eI aC 12 (fun _ => 0)), (q16, .inr (0, [.ref u1_1, .ref u2_1])), (u1_1, eJ aC 12 (fun _ => 0)), (u2_1, eI aC 12 (fun _ => 0)), (q28, .inr (0, [.ref u1_2, .ref u2_2])), (u1_2, eJ aC 12 (fun _ => 0)), (u2_2, eI aC 12 (fun _ => 0))] := hD
  refine va_putF (D := D) (ci := 1) (v := .ref q28) (ty := .object "CertificateDesk$Numbers") (C := R_Li) (T := F_Li) (N := 5) hx hb hts i_Li t_Li t_Li_ok n_Li hown hK hP hD hS 0 rfl rfl 2 (by decide) (hts _ wf_Li_28) (fun _ h9 => h9) rfl hin rfl (by decide +kernel) rfl rfl (Nat.le_of_ble_eq_true rfl) d_Li_init_36 (fun H locs hP hD hS => ?_)
  have hP : va_P D CL [(b, .inr (1, [.ref q10, .ref q16, .ref q28, .null, .int (iI 0)])), (q10, eI aC 12 (fun _ => 0)), (q16, .inr (0, [.ref u1_1, .ref u2_1])), (u1_1, eJ aC 12 (fun _ => 0)), (u2_1, eI aC 12 (fun _ => 0)), (q28, .inr (0, [.ref u1_2, .ref u2_2])), (u1_2, eJ aC 12 (fun _ => 0)), (u2_2, eI aC 12 (fun _ => 0))] H := hP
  have hD : va_D (va_A [(b, .inr (1, [.null, .null, .null, .null, .int (iI 0)]))] s.heap.size) [(b, .inr (1, [.ref q10, .ref q16, .ref q28, .null, .int (iI 0)])), (q10, eI aC 12 (fun _ => 0)), (q16, .inr (0, [.ref u1_1, .ref u2_1])), (u1_1, eJ aC 12 (fun _ => 0)), (u2_1, eI aC 12 (fun _ => 0)), (q28, .inr (0, [.ref u1_2, .ref u2_2])), (u1_2, eJ aC 12 (fun _ => 0)), (u2_2, eI aC 12 (fun _ => 0))] := hD
  refine lv_aload_n hx hb d_Li_init_39 rfl (lv_at hl 0 rfl) ?_
  refine va_new (ci := 0) (fs := [.null, .null]) (C := R_Nu) (T := F_Nu) (N := 2) hx hb hts i_Nu t_Nu t_Nu_ok hown (hts _ wl_Li_19) (hts _ wn_Nu) (hts _ wi_Nu) hK hP hD hS hA rfl (fun j hj => by
      match j, hj with
      | 0, _ => exact rfl
      | 1, _ => exact rfl
      | k + 2, h => exact absurd h (by omega)) (by decide) (by decide) d_Li_init_40 (fun q40 H hP hD hS => ?_)
  have hP : va_P D CL [(b, .inr (1, [.ref q10, .ref q16, .ref q28, .null, .int (iI 0)])), (q10, eI aC 12 (fun _ => 0)), (q16, .inr (0, [.ref u1_1, .ref u2_1])), (u1_1, eJ aC 12 (fun _ => 0)), (u2_1, eI aC 12 (fun _ => 0)), (q28, .inr (0, [.ref u1_2, .ref u2_2])), (u1_2, eJ aC 12 (fun _ => 0)), (u2_2, eI aC 12 (fun _ => 0)), (q40, .inr (0, [.null, .null]))] H := hP
  have hD : va_D (va_A [(b, .inr (1, [.null, .null, .null, .null, .int (iI 0)]))] s.heap.size) [(b, .inr (1, [.ref q10, .ref q16, .ref q28, .null, .int (iI 0)])), (q10, eI aC 12 (fun _ => 0)), (q16, .inr (0, [.ref u1_1, .ref u2_1])), (u1_1, eJ aC 12 (fun _ => 0)), (u2_1, eI aC 12 (fun _ => 0)), (q28, .inr (0, [.ref u1_2, .ref u2_2])), (u1_2, eJ aC 12 (fun _ => 0)), (u2_2, eI aC 12 (fun _ => 0)), (q40, .inr (0, [.null, .null]))] := hD
  refine lv_dup hx hb d_Li_init_43 rfl ?_
  refine lv_iload_n hx hb d_Li_init_44 rfl (lv_at hl 1 rfl) ?_
  refine x_callI (wr := [(b, .inr (1, [.ref q10, .ref q16, .ref q28, .null, .int (iI 0)])), (q10, eI aC 12 (fun _ => 0)), (q16, .inr (0, [.ref u1_1, .ref u2_1])), (u1_1, eJ aC 12 (fun _ => 0)), (u2_1, eI aC 12 (fun _ => 0)), (q28, .inr (0, [.ref u1_2, .ref u2_2])), (u1_2, eJ aC 12 (fun _ => 0)), (u2_2, eI aC 12 (fun _ => 0))]) S (c_Nu_init_12 l D aC q40) ti_Li_21 (rx_ok (by decide) (by decide)) hK hN hP hD hS hA [8] [0, 1, 2, 3, 4, 5, 6, 7] rfl rfl (by decide +kernel) (by decide +kernel) (by decide +kernel) rfl hl.1 rfl (Nat.le_of_ble_eq_true rfl) d_Li_init_45 ⟨by decide, by decide⟩ (fun w1 H locs hw hP hD hS => ?_)
  obtain ⟨u1_3, u2_3, rfl⟩ := hw
  have hP : va_P D CL [(b, .inr (1, [.ref q10, .ref q16, .ref q28, .null, .int (iI 0)])), (q10, eI aC 12 (fun _ => 0)), (q16, .inr (0, [.ref u1_1, .ref u2_1])), (u1_1, eJ aC 12 (fun _ => 0)), (u2_1, eI aC 12 (fun _ => 0)), (q28, .inr (0, [.ref u1_2, .ref u2_2])), (u1_2, eJ aC 12 (fun _ => 0)), (u2_2, eI aC 12 (fun _ => 0)), (q40, .inr (0, [.ref u1_3, .ref u2_3])), (u1_3, eJ aC 12 (fun _ => 0)), (u2_3, eI aC 12 (fun _ => 0))] H := hP
  have hD : va_D (va_A [(b, .inr (1, [.null, .null, .null, .null, .int (iI 0)]))] s.heap.size) [(b, .inr (1, [.ref q10, .ref q16, .ref q28, .null, .int (iI 0)])), (q10, eI aC 12 (fun _ => 0)), (q16, .inr (0, [.ref u1_1, .ref u2_1])), (u1_1, eJ aC 12 (fun _ => 0)), (u2_1, eI aC 12 (fun _ => 0)), (q28, .inr (0, [.ref u1_2, .ref u2_2])), (u1_2, eJ aC 12 (fun _ => 0)), (u2_2, eI aC 12 (fun _ => 0)), (q40, .inr (0, [.ref u1_3, .ref u2_3])), (u1_3, eJ aC 12 (fun _ => 0)), (u2_3, eI aC 12 (fun _ => 0))] := hD
  refine va_putF (D := D) (ci := 1) (v := .ref q40) (ty := .object "CertificateDesk$Numbers") (C := R_Li) (T := F_Li) (N := 5) hx hb hts i_Li t_Li t_Li_ok n_Li hown hK hP hD hS 0 rfl rfl 3 (by decide) (hts _ wf_Li_31) (fun _ h9 => h9) rfl hin rfl (by decide +kernel) rfl rfl (Nat.le_of_ble_eq_true rfl) d_Li_init_48 (fun H locs hP hD hS => ?_)
  have hP : va_P D CL [(b, .inr (1, [.ref q10, .ref q16, .ref q28, .ref q40, .int (iI 0)])), (q10, eI aC 12 (fun _ => 0)), (q16, .inr (0, [.ref u1_1, .ref u2_1])), (u1_1, eJ aC 12 (fun _ => 0)), (u2_1, eI aC 12 (fun _ => 0)), (q28, .inr (0, [.ref u1_2, .ref u2_2])), (u1_2, eJ aC 12 (fun _ => 0)), (u2_2, eI aC 12 (fun _ => 0)), (q40, .inr (0, [.ref u1_3, .ref u2_3])), (u1_3, eJ aC 12 (fun _ => 0)), (u2_3, eI aC 12 (fun _ => 0))] H := hP
  have hD : va_D (va_A [(b, .inr (1, [.null, .null, .null, .null, .int (iI 0)]))] s.heap.size) [(b, .inr (1, [.ref q10, .ref q16, .ref q28, .ref q40, .int (iI 0)])), (q10, eI aC 12 (fun _ => 0)), (q16, .inr (0, [.ref u1_1, .ref u2_1])), (u1_1, eJ aC 12 (fun _ => 0)), (u2_1, eI aC 12 (fun _ => 0)), (q28, .inr (0, [.ref u1_2, .ref u2_2])), (u1_2, eJ aC 12 (fun _ => 0)), (u2_2, eI aC 12 (fun _ => 0)), (q40, .inr (0, [.ref u1_3, .ref u2_3])), (u1_3, eJ aC 12 (fun _ => 0)), (u2_3, eI aC 12 (fun _ => 0))] := hD
  have hP9 := hP.sub (ws' := [(b, .inr (1, [.ref q10, .ref q16, .ref q28, .ref q40, .int (iI 0)])), (q10, eI aC 12 (fun _ => 0)), (q16, .inr (0, [.ref u1_1, .ref u2_1])), (u1_1, eJ aC 12 (fun _ => 0)), (u2_1, eI aC 12 (fun _ => 0)), (q28, .inr (0, [.ref u1_2, .ref u2_2])), (u1_2, eJ aC 12 (fun _ => 0)), (u2_2, eI aC 12 (fun _ => 0)), (q40, .inr (0, [.ref u1_3, .ref u2_3])), (u1_3, eJ aC 12 (fun _ => 0)), (u2_3, eI aC 12 (fun _ => 0))]) [0, 1, 2, 3, 4, 5, 6, 7, 8, 9, 10] rfl
  have hD9 := hD.sub (ws' := [(b, .inr (1, [.ref q10, .ref q16, .ref q28, .ref q40, .int (iI 0)])), (q10, eI aC 12 (fun _ => 0)), (q16, .inr (0, [.ref u1_1, .ref u2_1])), (u1_1, eJ aC 12 (fun _ => 0)), (u2_1, eI aC 12 (fun _ => 0)), (q28, .inr (0, [.ref u1_2, .ref u2_2])), (u1_2, eJ aC 12 (fun _ => 0)), (u2_2, eI aC 12 (fun _ => 0)), (q40, .inr (0, [.ref u1_3, .ref u2_3])), (u1_3, eJ aC 12 (fun _ => 0)), (u2_3, eI aC 12 (fun _ => 0))]) [0, 1, 2, 3, 4, 5, 6, 7, 8, 9, 10] (by decide +kernel) rfl
  exact x_ivret hx hb hr hlocks hQ ⟨by decide, by decide⟩ (⟨q10, q16, u1_1, u2_1, q28, u1_2, u2_2, q40, u1_3, u2_3, rfl⟩) hP9 hD9 hS d_Li_init_51
set_option maxHeartbeats 4000000 in
set_option maxRecDepth 100000 in
theorem c_Li_init_16 (l : Launch) (D : va_G) (aC : Nat → ClassId) (b : Nat) : IT l D aC y_Li_init (rx 2 62 10 118) 10 118 [.ref b, .int (iI 16)] [(b, .inr (1, [.null, .null, .null, .null, .int (iI 0)]))] (fun w => ∃ q1 q2 q3 q4 q5 q6 q7 q8 q9 q10 : Nat, w = [(b, .inr (1, [.ref q1, .ref q2, .ref q5, .ref q8, .int (iI 0)])), (q1, eI aC 16 (fun _ => 0)), (q2, .inr (0, [.ref q3, .ref q4])), (q3, eJ aC 16 (fun _ => 0)), (q4, eI aC 16 (fun _ => 0)), (q5, .inr (0, [.ref q6, .ref q7])), (q6, eJ aC 16 (fun _ => 0)), (q7, eI aC 16 (fun _ => 0)), (q8, .inr (0, [.ref q9, .ref q10])), (q9, eJ aC 16 (fun _ => 0)), (q10, eI aC 16 (fun _ => 0))]) := by
  refine IT.of (cc := b_Li_init) (maxL := 2) (by decide +kernel) k_Li_init rfl (Nat.le_of_ble_eq_true rfl) ?_
  intro p e s m below meth c Q S hr hlocks hin hQ hK hN hP hD hS ls hl
  obtain ⟨hx, hb, hml, hown, hts⟩ := id S
  have hA : ∀ q, s.heap.size ≤ q → va_A [(b, .inr (1, [.null, .null, .null, .null, .int (iI 0)]))] s.heap.size q := fun q h => Or.inr h
  have hl : lv_has ls 2 [(0, .ref b), (1, .int (iI 16))] := hl
  refine lv_aload_n hx hb d_Li_init_0 rfl (lv_at hl 0 rfl) ?_
  refine W.objInit hx hb hown (hts _ wo_Li_1) (hts _ wo_inst) (hts _ wo_code) rfl (by rw [hml]; exact hl.1) rfl d_Li_init_1 (Nat.le_of_ble_eq_true rfl) (Nat.le_of_ble_eq_true rfl) ?_
  refine W.eq (g2 := F0 m 4 ls []) rfl ?_
  refine lv_aload_n hx hb d_Li_init_4 rfl (lv_at hl 0 rfl) ?_
  refine lv_iload_n hx hb d_Li_init_5 rfl (lv_at hl 1 rfl) ?_
  refine lv_iconst (v := iI 0) hx hb d_Li_init_6 rfl ?_
  refine y_callS1 (V := .int (iI (max 16 0))) S (c_max l D aC 16 0 (by omega) (by omega)) t_Li_7 (rm_okx (by decide) (by decide)) hK hN hP [] rfl rfl hl.1 rfl (Nat.le_of_ble_eq_true rfl) d_Li_init_7 ⟨by decide, by decide⟩ ?_
  refine x_top (max 16 0) 16 (by decide) ?_
  refine x_newa (atype := .int) (ty := .int) hx hb rfl (hts _ wa_I) hK hP hD hS hA 0 rfl (fun _ _ h => h) (fun x => nw_I x 16) (by decide) (by decide) (by decide) (by decide) d_Li_init_10 (fun q10 H hP hD hS => ?_)
  have hP : va_P D CL [(b, .inr (1, [.null, .null, .null, .null, .int (iI 0)])), (q10, eI aC 16 (fun _ => 0))] H := hP
  have hD : va_D (va_A [(b, .inr (1, [.null, .null, .null, .null, .int (iI 0)]))] s.heap.size) [(b, .inr (1, [.null, .null, .null, .null, .int (iI 0)])), (q10, eI aC 16 (fun _ => 0))] := hD
  refine va_putF (D := D) (ci := 1) (v := .ref q10) (ty := (.array .int)) (C := R_Li) (T := F_Li) (N := 5) hx hb hts i_Li t_Li t_Li_ok n_Li hown hK hP hD hS 0 rfl rfl 0 (by decide) (hts _ wf_Li_13) (fun _ h9 => h9) rfl hin rfl (by decide +kernel) rfl rfl (Nat.le_of_ble_eq_true rfl) d_Li_init_12 (fun H locs hP hD hS => ?_)
  have hP : va_P D CL [(b, .inr (1, [.ref q10, .null, .null, .null, .int (iI 0)])), (q10, eI aC 16 (fun _ => 0))] H := hP
  have hD : va_D (va_A [(b, .inr (1, [.null, .null, .null, .null, .int (iI 0)]))] s.heap.size) [(b, .inr (1, [.ref q10, .null, .null, .null, .int (iI 0)])), (q10, eI aC 16 (fun _ => 0))] := hD
  refine lv_aload_n hx hb d_Li_init_15 rfl (lv_at hl 0 rfl) ?_
  refine va_new (ci := 0) (fs := [.null, .null]) (C := R_Nu) (T := F_Nu) (N := 2) hx hb hts i_Nu t_Nu t_Nu_ok hown (hts _ wl_Li_19) (hts _ wn_Nu) (hts _ wi_Nu) hK hP hD hS hA rfl (fun j hj => by
      match j, hj with
      | 0, _ => exact rfl
      | 1, _ => exact rfl
      | k + 2, h => exact absurd h (by omega)) (by decide) (by decide) d_Li_init_16 (fun q16 H hP hD hS => ?_)
  have hP : va_P D CL [(b, .inr (1, [.ref q10, .null, .null, .null, .int (iI 0)])), (q10, eI aC 16 (fun _ => 0)), (q16, .inr (0, [.null, .null]))] H := hP
  have hD : va_D (va_A [(b, .inr (1, [.null, .null, .null, .null, .int (iI 0)]))] s.heap.size) [(b, .inr (1, [.ref q10, .null, .null, .null, .int (iI 0)])), (q10, eI aC 16 (fun _ => 0)), (q16, .inr (0, [.null, .null]))] := hD
  refine lv_dup hx hb d_Li_init_19 rfl ?_
  refine lv_iload_n hx hb d_Li_init_20 rfl (lv_at hl 1 rfl) ?_
  refine x_callI (wr := [(b, .inr (1, [.ref q10, .null, .null, .null, .int (iI 0)])), (q10, eI aC 16 (fun _ => 0))]) S (c_Nu_init_16 l D aC q16) ti_Li_21 (rx_ok (by decide) (by decide)) hK hN hP hD hS hA [2] [0, 1] rfl rfl (by decide +kernel) (by decide +kernel) (by decide +kernel) rfl hl.1 rfl (Nat.le_of_ble_eq_true rfl) d_Li_init_21 ⟨by decide, by decide⟩ (fun w1 H locs hw hP hD hS => ?_)
  obtain ⟨u1_1, u2_1, rfl⟩ := hw
  have hP : va_P D CL [(b, .inr (1, [.ref q10, .null, .null, .null, .int (iI 0)])), (q10, eI aC 16 (fun _ => 0)), (q16, .inr (0, [.ref u1_1, .ref u2_1])), (u1_1, eJ aC 16 (fun _ => 0)), (u2_1, eI aC 16 (fun _ => 0))] H := hP
  have hD : va_D (va_A [(b, .inr (1, [.null, .null, .null, .null, .int (iI 0)]))] s.heap.size) [(b, .inr (1, [.ref q10, .null, .null, .null, .int (iI 0)])), (q10, eI aC 16 (fun _ => 0)), (q16, .inr (0, [.ref u1_1, .ref u2_1])), (u1_1, eJ aC 16 (fun _ => 0)), (u2_1, eI aC 16 (fun _ => 0))] := hD
  refine va_putF (D := D) (ci := 1) (v := .ref q16) (ty := .object "CertificateDesk$Numbers") (C := R_Li) (T := F_Li) (N := 5) hx hb hts i_Li t_Li t_Li_ok n_Li hown hK hP hD hS 0 rfl rfl 1 (by decide) (hts _ wf_Li_24) (fun _ h9 => h9) rfl hin rfl (by decide +kernel) rfl rfl (Nat.le_of_ble_eq_true rfl) d_Li_init_24 (fun H locs hP hD hS => ?_)
  have hP : va_P D CL [(b, .inr (1, [.ref q10, .ref q16, .null, .null, .int (iI 0)])), (q10, eI aC 16 (fun _ => 0)), (q16, .inr (0, [.ref u1_1, .ref u2_1])), (u1_1, eJ aC 16 (fun _ => 0)), (u2_1, eI aC 16 (fun _ => 0))] H := hP
  have hD : va_D (va_A [(b, .inr (1, [.null, .null, .null, .null, .int (iI 0)]))] s.heap.size) [(b, .inr (1, [.ref q10, .ref q16, .null, .null, .int (iI 0)])), (q10, eI aC 16 (fun _ => 0)), (q16, .inr (0, [.ref u1_1, .ref u2_1])), (u1_1, eJ aC 16 (fun _ => 0)), (u2_1, eI aC 16 (fun _ => 0))] := hD
  refine lv_aload_n hx hb d_Li_init_27 rfl (lv_at hl 0 rfl) ?_
  refine va_new (ci := 0) (fs := [.null, .null]) (C := R_Nu) (T := F_Nu) (N := 2) hx hb hts i_Nu t_Nu t_Nu_ok hown (hts _ wl_Li_19) (hts _ wn_Nu) (hts _ wi_Nu) hK hP hD hS hA rfl (fun j hj => by
      match j, hj with
      | 0, _ => exact rfl
      | 1, _ => exact rfl
      | k + 2, h => exact absurd h (by omega)) (by decide) (by decide) d_Li_init_28 (fun q28 H hP hD hS => ?_)
  have hP : va_P D CL [(b, .inr (1, [.ref q10, .ref q16, .null, .null, .int (iI 0)])), (q10, eI aC 16 (fun _ => 0)), (q16, .inr (0, [.ref u1_1, .ref u2_1])), (u1_1, eJ aC 16 (fun _ => 0)), (u2_1, eI aC 16 (fun _ => 0)), (q28, .inr (0, [.null, .null]))] H := hP
  have hD : va_D (va_A [(b, .inr (1, [.null, .null, .null, .null, .int (iI 0)]))] s.heap.size) [(b, .inr (1, [.ref q10, .ref q16, .null, .null, .int (iI 0)])), (q10, eI aC 16 (fun _ => 0)), (q16, .inr (0, [.ref u1_1, .ref u2_1])), (u1_1, eJ aC 16 (fun _ => 0)), (u2_1, eI aC 16 (fun _ => 0)), (q28, .inr (0, [.null, .null]))] := hD
  refine lv_dup hx hb d_Li_init_31 rfl ?_
  refine lv_iload_n hx hb d_Li_init_32 rfl (lv_at hl 1 rfl) ?_
  refine x_callI (wr := [(b, .inr (1, [.ref q10, .ref q16, .null, .null, .int (iI 0)])), (q10, eI aC 16 (fun _ => 0)), (q16, .inr (0, [.ref u1_1, .ref u2_1])), (u1_1, eJ aC 16 (fun _ => 0)), (u2_1, eI aC 16 (fun _ => 0))]) S (c_Nu_init_16 l D aC q28) ti_Li_21 (rx_ok (by decide) (by decide)) hK hN hP hD hS hA [5] [0, 1, 2, 3, 4] rfl rfl (by decide +kernel) (by decide +kernel) (by decide +kernel) rfl hl.1 rfl (Nat.le_of_ble_eq_true rfl) d_Li_init_33 ⟨by decide, by decide⟩ (fun w1 H locs hw hP hD hS => ?_)
  obtain ⟨u1_2, u2_2, rfl⟩ := hw
  have hP : va_P D CL [(b, .inr (1, [.ref q10, .ref q16, .null, .null, .int (iI 0)])), (q10, eI aC 16 (fun _ => 0)), (q16, .inr (0, [.ref u1_1, .ref u2_1])), (u1_1, eJ aC 16 (fun _ => 0)), (u2_1, eI aC 16 (fun _ => 0)), (q28, .inr (0, [.ref u1_2, .ref u2_2])), (u1_2, eJ aC 16 (fun _ => 0)), (u2_2, eI aC 16 (fun _ => 0))] H := hP
  have hD : va_D (va_A [(b, .inr (1, [.null, .null, .null, .null, .int (iI 0)]))] s.heap.size) [(b, .inr (1, [.ref q10, .ref q16, .null, .null, .int (iI 0)])), (q10, eI aC 16 (fun _ => 0)), (q16, .inr (0, [.ref u1_1, .ref u2_1])), (u1_1, eJ aC 16 (fun _ => 0)), (u2_1, eI aC 16 (fun _ => 0)), (q28, .inr (0, [.ref u1_2, .ref u2_2])), (u1_2, eJ aC 16 (fun _ => 0)), (u2_2, eI aC 16 (fun _ => 0))] := hD
  refine va_putF (D := D) (ci := 1) (v := .ref q28) (ty := .object "CertificateDesk$Numbers") (C := R_Li) (T := F_Li) (N := 5) hx hb hts i_Li t_Li t_Li_ok n_Li hown hK hP hD hS 0 rfl rfl 2 (by decide) (hts _ wf_Li_28) (fun _ h9 => h9) rfl hin rfl (by decide +kernel) rfl rfl (Nat.le_of_ble_eq_true rfl) d_Li_init_36 (fun H locs hP hD hS => ?_)
  have hP : va_P D CL [(b, .inr (1, [.ref q10, .ref q16, .ref q28, .null, .int (iI 0)])), (q10, eI aC 16 (fun _ => 0)), (q16, .inr (0, [.ref u1_1, .ref u2_1])), (u1_1, eJ aC 16 (fun _ => 0)), (u2_1, eI aC 16 (fun _ => 0)), (q28, .inr (0, [.ref u1_2, .ref u2_2])), (u1_2, eJ aC 16 (fun _ => 0)), (u2_2, eI aC 16 (fun _ => 0))] H := hP
  have hD : va_D (va_A [(b, .inr (1, [.null, .null, .null, .null, .int (iI 0)]))] s.heap.size) [(b, .inr (1, [.ref q10, .ref q16, .ref q28, .null, .int (iI 0)])), (q10, eI aC 16 (fun _ => 0)), (q16, .inr (0, [.ref u1_1, .ref u2_1])), (u1_1, eJ aC 16 (fun _ => 0)), (u2_1, eI aC 16 (fun _ => 0)), (q28, .inr (0, [.ref u1_2, .ref u2_2])), (u1_2, eJ aC 16 (fun _ => 0)), (u2_2, eI aC 16 (fun _ => 0))] := hD
  refine lv_aload_n hx hb d_Li_init_39 rfl (lv_at hl 0 rfl) ?_
  refine va_new (ci := 0) (fs := [.null, .null]) (C := R_Nu) (T := F_Nu) (N := 2) hx hb hts i_Nu t_Nu t_Nu_ok hown (hts _ wl_Li_19) (hts _ wn_Nu) (hts _ wi_Nu) hK hP hD hS hA rfl (fun j hj => by
      match j, hj with
      | 0, _ => exact rfl
      | 1, _ => exact rfl
      | k + 2, h => exact absurd h (by omega)) (by decide) (by decide) d_Li_init_40 (fun q40 H hP hD hS => ?_)
  have hP : va_P D CL [(b, .inr (1, [.ref q10, .ref q16, .ref q28, .null, .int (iI 0)])), (q10, eI aC 16 (fun _ => 0)), (q16, .inr (0, [.ref u1_1, .ref u2_1])), (u1_1, eJ aC 16 (fun _ => 0)), (u2_1, eI aC 16 (fun _ => 0)), (q28, .inr (0, [.ref u1_2, .ref u2_2])), (u1_2, eJ aC 16 (fun _ => 0)), (u2_2, eI aC 16 (fun _ => 0)), (q40, .inr (0, [.null, .null]))] H := hP
  have hD : va_D (va_A [(b, .inr (1, [.null, .null, .null, .null, .int (iI 0)]))] s.heap.size) [(b, .inr (1, [.ref q10, .ref q16, .ref q28, .null, .int (iI 0)])), (q10, eI aC 16 (fun _ => 0)), (q16, .inr (0, [.ref u1_1, .ref u2_1])), (u1_1, eJ aC 16 (fun _ => 0)), (u2_1, eI aC 16 (fun _ => 0)), (q28, .inr (0, [.ref u1_2, .ref u2_2])), (u1_2, eJ aC 16 (fun _ => 0)), (u2_2, eI aC 16 (fun _ => 0)), (q40, .inr (0, [.null, .null]))] := hD
  refine lv_dup hx hb d_Li_init_43 rfl ?_
  refine lv_iload_n hx hb d_Li_init_44 rfl (lv_at hl 1 rfl) ?_
  refine x_callI (wr := [(b, .inr (1, [.ref q10, .ref q16, .ref q28, .null, .int (iI 0)])), (q10, eI aC 16 (fun _ => 0)), (q16, .inr (0, [.ref u1_1, .ref u2_1])), (u1_1, eJ aC 16 (fun _ => 0)), (u2_1, eI aC 16 (fun _ => 0)), (q28, .inr (0, [.ref u1_2, .ref u2_2])), (u1_2, eJ aC 16 (fun _ => 0)), (u2_2, eI aC 16 (fun _ => 0))]) S (c_Nu_init_16 l D aC q40) ti_Li_21 (rx_ok (by decide) (by decide)) hK hN hP hD hS hA [8] [0, 1, 2, 3, 4, 5, 6, 7] rfl rfl (by decide +kernel) (by decide +kernel) (by decide +kernel) rfl hl.1 rfl (Nat.le_of_ble_eq_true rfl) d_Li_init_45 ⟨by decide, by decide⟩ (fun w1 H locs hw hP hD hS => ?_)
  obtain ⟨u1_3, u2_3, rfl⟩ := hw
  have hP : va_P D CL [(b, .inr (1, [.ref q10, .ref q16, .ref q28, .null, .int (iI 0)])), (q10, eI aC 16 (fun _ => 0)), (q16, .inr (0, [.ref u1_1, .ref u2_1])), (u1_1, eJ aC 16 (fun _ => 0)), (u2_1, eI aC 16 (fun _ => 0)), (q28, .inr (0, [.ref u1_2, .ref u2_2])), (u1_2, eJ aC 16 (fun _ => 0)), (u2_2, eI aC 16 (fun _ => 0)), (q40, .inr (0, [.ref u1_3, .ref u2_3])), (u1_3, eJ aC 16 (fun _ => 0)), (u2_3, eI aC 16 (fun _ => 0))] H := hP
  have hD : va_D (va_A [(b, .inr (1, [.null, .null, .null, .null, .int (iI 0)]))] s.heap.size) [(b, .inr (1, [.ref q10, .ref q16, .ref q28, .null, .int (iI 0)])), (q10, eI aC 16 (fun _ => 0)), (q16, .inr (0, [.ref u1_1, .ref u2_1])), (u1_1, eJ aC 16 (fun _ => 0)), (u2_1, eI aC 16 (fun _ => 0)), (q28, .inr (0, [.ref u1_2, .ref u2_2])), (u1_2, eJ aC 16 (fun _ => 0)), (u2_2, eI aC 16 (fun _ => 0)), (q40, .inr (0, [.ref u1_3, .ref u2_3])), (u1_3, eJ aC 16 (fun _ => 0)), (u2_3, eI aC 16 (fun _ => 0))] := hD
  refine va_putF (D := D) (ci := 1) (v := .ref q40) (ty := .object "CertificateDesk$Numbers") (C := R_Li) (T := F_Li) (N := 5) hx hb hts i_Li t_Li t_Li_ok n_Li hown hK hP hD hS 0 rfl rfl 3 (by decide) (hts _ wf_Li_31) (fun _ h9 => h9) rfl hin rfl (by decide +kernel) rfl rfl (Nat.le_of_ble_eq_true rfl) d_Li_init_48 (fun H locs hP hD hS => ?_)
  have hP : va_P D CL [(b, .inr (1, [.ref q10, .ref q16, .ref q28, .ref q40, .int (iI 0)])), (q10, eI aC 16 (fun _ => 0)), (q16, .inr (0, [.ref u1_1, .ref u2_1])), (u1_1, eJ aC 16 (fun _ => 0)), (u2_1, eI aC 16 (fun _ => 0)), (q28, .inr (0, [.ref u1_2, .ref u2_2])), (u1_2, eJ aC 16 (fun _ => 0)), (u2_2, eI aC 16 (fun _ => 0)), (q40, .inr (0, [.ref u1_3, .ref u2_3])), (u1_3, eJ aC 16 (fun _ => 0)), (u2_3, eI aC 16 (fun _ => 0))] H := hP
  have hD : va_D (va_A [(b, .inr (1, [.null, .null, .null, .null, .int (iI 0)]))] s.heap.size) [(b, .inr (1, [.ref q10, .ref q16, .ref q28, .ref q40, .int (iI 0)])), (q10, eI aC 16 (fun _ => 0)), (q16, .inr (0, [.ref u1_1, .ref u2_1])), (u1_1, eJ aC 16 (fun _ => 0)), (u2_1, eI aC 16 (fun _ => 0)), (q28, .inr (0, [.ref u1_2, .ref u2_2])), (u1_2, eJ aC 16 (fun _ => 0)), (u2_2, eI aC 16 (fun _ => 0)), (q40, .inr (0, [.ref u1_3, .ref u2_3])), (u1_3, eJ aC 16 (fun _ => 0)), (u2_3, eI aC 16 (fun _ => 0))] := hD
  have hP9 := hP.sub (ws' := [(b, .inr (1, [.ref q10, .ref q16, .ref q28, .ref q40, .int (iI 0)])), (q10, eI aC 16 (fun _ => 0)), (q16, .inr (0, [.ref u1_1, .ref u2_1])), (u1_1, eJ aC 16 (fun _ => 0)), (u2_1, eI aC 16 (fun _ => 0)), (q28, .inr (0, [.ref u1_2, .ref u2_2])), (u1_2, eJ aC 16 (fun _ => 0)), (u2_2, eI aC 16 (fun _ => 0)), (q40, .inr (0, [.ref u1_3, .ref u2_3])), (u1_3, eJ aC 16 (fun _ => 0)), (u2_3, eI aC 16 (fun _ => 0))]) [0, 1, 2, 3, 4, 5, 6, 7, 8, 9, 10] rfl
  have hD9 := hD.sub (ws' := [(b, .inr (1, [.ref q10, .ref q16, .ref q28, .ref q40, .int (iI 0)])), (q10, eI aC 16 (fun _ => 0)), (q16, .inr (0, [.ref u1_1, .ref u2_1])), (u1_1, eJ aC 16 (fun _ => 0)), (u2_1, eI aC 16 (fun _ => 0)), (q28, .inr (0, [.ref u1_2, .ref u2_2])), (u1_2, eJ aC 16 (fun _ => 0)), (u2_2, eI aC 16 (fun _ => 0)), (q40, .inr (0, [.ref u1_3, .ref u2_3])), (u1_3, eJ aC 16 (fun _ => 0)), (u2_3, eI aC 16 (fun _ => 0))]) [0, 1, 2, 3, 4, 5, 6, 7, 8, 9, 10] (by decide +kernel) rfl
  exact x_ivret hx hb hr hlocks hQ ⟨by decide, by decide⟩ (⟨q10, q16, u1_1, u2_1, q28, u1_2, u2_2, q40, u1_3, u2_3, rfl⟩) hP9 hD9 hS d_Li_init_51
set_option maxHeartbeats 4000000 in
set_option maxRecDepth 100000 in
theorem c_Ce_init_60 (l : Launch) (D : va_G) (aC : Nat → ClassId) (b : Nat) : IT l D aC y_Ce_init (rx 2 62 5 242) 5 242 [.ref b, .int (iI 60)] [(b, .inr (2, [.null, .null, .null, .int (iI 0)]))] (fun w => ∃ q1 q2 q3 q4 q5 : Nat, w = [(b, .inr (2, [.ref q1, .ref q2, .ref q3, .int (iI 0)])), (q1, eI aC 60 (fun _ => 0)), (q2, eI aC 60 (fun _ => 0)), (q3, .inr (0, [.ref q4, .ref q5])), (q4, eJ aC 60 (fun _ => 0)), (q5, eI aC 60 (fun _ => 0))]) := by
  refine IT.of (cc := b_Ce_init) (maxL := 3) (by decide +kernel) k_Ce_init rfl (Nat.le_of_ble_eq_true rfl) ?_
  intro p e s m below meth c Q S hr hlocks hin hQ hK hN hP hD hS ls hl
  obtain ⟨hx, hb, hml, hown, hts⟩ := id S
  have hA : ∀ q, s.heap.size ≤ q → va_A [(b, .inr (2, [.null, .null, .null, .int (iI 0)]))] s.heap.size q := fun q h => Or.inr h
  have hl : lv_has ls 3 [(0, .ref b), (1, .int (iI 60))] := hl
  refine lv_aload_n hx hb d_Ce_init_0 rfl (lv_at hl 0 rfl) ?_
  refine W.objInit hx hb hown (hts _ wo_Ce_1) (hts _ wo_inst) (hts _ wo_code) rfl (by rw [hml]; exact hl.1) rfl d_Ce_init_1 (Nat.le_of_ble_eq_true rfl) (Nat.le_of_ble_eq_true rfl) ?_
  refine W.eq (g2 := F0 m 4 ls []) rfl ?_
  refine lv_iload_n hx hb d_Ce_init_4 rfl (lv_at hl 1 rfl) ?_
  refine lv_iconst (v := iI 0) hx hb d_Ce_init_5 rfl ?_
  refine y_callS1 (V := .int (iI (max 60 0))) S (c_max l D aC 60 0 (by omega) (by omega)) t_Ce_7 (rm_okx (by decide) (by decide)) hK hN hP [] rfl rfl hl.1 rfl (Nat.le_of_ble_eq_true rfl) d_Ce_init_6 ⟨by decide, by decide⟩ ?_
  refine x_top (max 60 0) 60 (by decide) ?_
  refine lv_istore_n (lv' := [(2, .int (iI 60)), (0, .ref b), (1, .int (iI 60))]) hx hb d_Ce_init_9 rfl hl (by decide) rfl (fun ls hl => ?_)
  refine lv_aload_n hx hb d_Ce_init_10 rfl (lv_at hl 1 rfl) ?_
  refine lv_iload_n hx hb d_Ce_init_11 rfl (lv_at hl 0 rfl) ?_
  refine x_newa (atype := .int) (ty := .int) hx hb rfl (hts _ wa_I) hK hP hD hS hA 0 rfl (fun _ _ h => h) (fun x => nw_I x 60) (by decide) (by decide) (by decide) (by decide) d_Ce_init_12 (fun q12 H hP hD hS => ?_)
  have hP : va_P D CL [(b, .inr (2, [.null, .null, .null, .int (iI 0)])), (q12, eI aC 60 (fun _ => 0))] H := hP
  have hD : va_D (va_A [(b, .inr (2, [.null, .null, .null, .int (iI 0)]))] s.heap.size) [(b, .inr (2, [.null, .null, .null, .int (iI 0)])), (q12, eI aC 60 (fun _ => 0))] := hD
  refine va_putF (D := D) (ci := 2) (v := .ref q12) (ty := (.array .int)) (C := R_Ce) (T := F_Ce) (N := 4) hx hb hts i_Ce t_Ce t_Ce_ok n_Ce hown hK hP hD hS 0 rfl rfl 0 (by decide) (hts _ wf_Ce_13) (fun _ h9 => h9) rfl hin rfl (by decide +kernel) rfl rfl (Nat.le_of_ble_eq_true rfl) d_Ce_init_14 (fun H locs hP hD hS => ?_)
  have hP : va_P D CL [(b, .inr (2, [.ref q12, .null, .null, .int (iI 0)])), (q12, eI aC 60 (fun _ => 0))] H := hP
  have hD : va_D (va_A [(b, .inr (2, [.null, .null, .null, .int (iI 0)]))] s.heap.size) [(b, .inr (2, [.ref q12, .null, .null, .int (iI 0)])), (q12, eI aC 60 (fun _ => 0))] := hD
  refine lv_aload_n hx hb d_Ce_init_17 rfl (lv_at hl 1 rfl) ?_
  refine lv_iload_n hx hb d_Ce_init_18 rfl (lv_at hl 0 rfl) ?_
  refine x_newa (atype := .int) (ty := .int) hx hb rfl (hts _ wa_I) hK hP hD hS hA 0 rfl (fun _ _ h => h) (fun x => nw_I x 60) (by decide) (by decide) (by decide) (by decide) d_Ce_init_19 (fun q19 H hP hD hS => ?_)
  have hP : va_P D CL [(b, .inr (2, [.ref q12, .null, .null, .int (iI 0)])), (q12, eI aC 60 (fun _ => 0)), (q19, eI aC 60 (fun _ => 0))] H := hP
  have hD : va_D (va_A [(b, .inr (2, [.null, .null, .null, .int (iI 0)]))] s.heap.size) [(b, .inr (2, [.ref q12, .null, .null, .int (iI 0)])), (q12, eI aC 60 (fun _ => 0)), (q19, eI aC 60 (fun _ => 0))] := hD
  refine va_putF (D := D) (ci := 2) (v := .ref q19) (ty := (.array .int)) (C := R_Ce) (T := F_Ce) (N := 4) hx hb hts i_Ce t_Ce t_Ce_ok n_Ce hown hK hP hD hS 0 rfl rfl 1 (by decide) (hts _ wf_Ce_19) (fun _ h9 => h9) rfl hin rfl (by decide +kernel) rfl rfl (Nat.le_of_ble_eq_true rfl) d_Ce_init_21 (fun H locs hP hD hS => ?_)
  have hP : va_P D CL [(b, .inr (2, [.ref q12, .ref q19, .null, .int (iI 0)])), (q12, eI aC 60 (fun _ => 0)), (q19, eI aC 60 (fun _ => 0))] H := hP
  have hD : va_D (va_A [(b, .inr (2, [.null, .null, .null, .int (iI 0)]))] s.heap.size) [(b, .inr (2, [.ref q12, .ref q19, .null, .int (iI 0)])), (q12, eI aC 60 (fun _ => 0)), (q19, eI aC 60 (fun _ => 0))] := hD
  refine lv_aload_n hx hb d_Ce_init_24 rfl (lv_at hl 1 rfl) ?_
  refine va_new (ci := 0) (fs := [.null, .null]) (C := R_Nu) (T := F_Nu) (N := 2) hx hb hts i_Nu t_Nu t_Nu_ok hown (hts _ wl_Ce_22) (hts _ wn_Nu) (hts _ wi_Nu) hK hP hD hS hA rfl (fun j hj => by
      match j, hj with
      | 0, _ => exact rfl
      | 1, _ => exact rfl
      | k + 2, h => exact absurd h (by omega)) (by decide) (by decide) d_Ce_init_25 (fun q25 H hP hD hS => ?_)
  have hP : va_P D CL [(b, .inr (2, [.ref q12, .ref q19, .null, .int (iI 0)])), (q12, eI aC 60 (fun _ => 0)), (q19, eI aC 60 (fun _ => 0)), (q25, .inr (0, [.null, .null]))] H := hP
  have hD : va_D (va_A [(b, .inr (2, [.null, .null, .null, .int (iI 0)]))] s.heap.size) [(b, .inr (2, [.ref q12, .ref q19, .null, .int (iI 0)])), (q12, eI aC 60 (fun _ => 0)), (q19, eI aC 60 (fun _ => 0)), (q25, .inr (0, [.null, .null]))] := hD
  refine lv_dup hx hb d_Ce_init_28 rfl ?_
  refine lv_iload_n hx hb d_Ce_init_29 rfl (lv_at hl 0 rfl) ?_
  refine x_callI (wr := [(b, .inr (2, [.ref q12, .ref q19, .null, .int (iI 0)])), (q12, eI aC 60 (fun _ => 0)), (q19, eI aC 60 (fun _ => 0))]) S (c_Nu_init_60 l D aC q25) ti_Ce_24 (rx_ok (by decide) (by decide)) hK hN hP hD hS hA [3] [0, 1, 2] rfl rfl (by decide +kernel) (by decide +kernel) (by decide +kernel) rfl hl.1 rfl (Nat.le_of_ble_eq_true rfl) d_Ce_init_30 ⟨by decide, by decide⟩ (fun w1 H locs hw hP hD hS => ?_)
  obtain ⟨u1_1, u2_1, rfl⟩ := hw
  have hP : va_P D CL [(b, .inr (2, [.ref q12, .ref q19, .null, .int (iI 0)])), (q12, eI aC 60 (fun _ => 0)), (q19, eI aC 60 (fun _ => 0)), (q25, .inr (0, [.ref u1_1, .ref u2_1])), (u1_1, eJ aC 60 (fun _ => 0)), (u2_1, eI aC 60 (fun _ => 0))] H := hP
  have hD : va_D (va_A [(b, .inr (2, [.null, .null, .null, .int (iI 0)]))] s.heap.size) [(b, .inr (2, [.ref q12, .ref q19, .null, .int (iI 0)])), (q12, eI aC 60 (fun _ => 0)), (q19, eI aC 60 (fun _ => 0)), (q25, .inr (0, [.ref u1_1, .ref u2_1])), (u1_1, eJ aC 60 (fun _ => 0)), (u2_1, eI aC 60 (fun _ => 0))] := hD
  refine va_putF (D := D) (ci := 2) (v := .ref q25) (ty := .object "CertificateDesk$Numbers") (C := R_Ce) (T := F_Ce) (N := 4) hx hb hts i_Ce t_Ce t_Ce_ok n_Ce hown hK hP hD hS 0 rfl rfl 2 (by decide) (hts _ wf_Ce_27) (fun _ h9 => h9) rfl hin rfl (by decide +kernel) rfl rfl (Nat.le_of_ble_eq_true rfl) d_Ce_init_33 (fun H locs hP hD hS => ?_)
  have hP : va_P D CL [(b, .inr (2, [.ref q12, .ref q19, .ref q25, .int (iI 0)])), (q12, eI aC 60 (fun _ => 0)), (q19, eI aC 60 (fun _ => 0)), (q25, .inr (0, [.ref u1_1, .ref u2_1])), (u1_1, eJ aC 60 (fun _ => 0)), (u2_1, eI aC 60 (fun _ => 0))] H := hP
  have hD : va_D (va_A [(b, .inr (2, [.null, .null, .null, .int (iI 0)]))] s.heap.size) [(b, .inr (2, [.ref q12, .ref q19, .ref q25, .int (iI 0)])), (q12, eI aC 60 (fun _ => 0)), (q19, eI aC 60 (fun _ => 0)), (q25, .inr (0, [.ref u1_1, .ref u2_1])), (u1_1, eJ aC 60 (fun _ => 0)), (u2_1, eI aC 60 (fun _ => 0))] := hD
  have hP9 := hP.sub (ws' := [(b, .inr (2, [.ref q12, .ref q19, .ref q25, .int (iI 0)])), (q12, eI aC 60 (fun _ => 0)), (q19, eI aC 60 (fun _ => 0)), (q25, .inr (0, [.ref u1_1, .ref u2_1])), (u1_1, eJ aC 60 (fun _ => 0)), (u2_1, eI aC 60 (fun _ => 0))]) [0, 1, 2, 3, 4, 5] rfl
  have hD9 := hD.sub (ws' := [(b, .inr (2, [.ref q12, .ref q19, .ref q25, .int (iI 0)])), (q12, eI aC 60 (fun _ => 0)), (q19, eI aC 60 (fun _ => 0)), (q25, .inr (0, [.ref u1_1, .ref u2_1])), (u1_1, eJ aC 60 (fun _ => 0)), (u2_1, eI aC 60 (fun _ => 0))]) [0, 1, 2, 3, 4, 5] (by decide +kernel) rfl
  exact x_ivret hx hb hr hlocks hQ ⟨by decide, by decide⟩ (⟨q12, q19, q25, u1_1, u2_1, rfl⟩) hP9 hD9 hS d_Ce_init_36
set_option maxHeartbeats 4000000 in
set_option maxRecDepth 100000 in
theorem c_Ce_init_100 (l : Launch) (D : va_G) (aC : Nat → ClassId) (b : Nat) : IT l D aC y_Ce_init (rx 2 62 5 402) 5 402 [.ref b, .int (iI 100)] [(b, .inr (2, [.null, .null, .null, .int (iI 0)]))] (fun w => ∃ q1 q2 q3 q4 q5 : Nat, w = [(b, .inr (2, [.ref q1, .ref q2, .ref q3, .int (iI 0)])), (q1, eI aC 100 (fun _ => 0)), (q2, eI aC 100 (fun _ => 0)), (q3, .inr (0, [.ref q4, .ref q5])), (q4, eJ aC 100 (fun _ => 0)), (q5, eI aC 100 (fun _ => 0))]) := by
  refine IT.of (cc := b_Ce_init) (maxL := 3) (by decide +kernel) k_Ce_init rfl (Nat.le_of_ble_eq_true rfl) ?_
  intro p e s m below meth c Q S hr hlocks hin hQ hK hN hP hD hS ls hl
  obtain ⟨hx, hb, hml, hown, hts⟩ := id S
  have hA : ∀ q, s.heap.size ≤ q → va_A [(b, .inr (2, [.null, .null, .null, .int (iI 0)]))] s.heap.size q := fun q h => Or.inr h
  have hl : lv_has ls 3 [(0, .ref b), (1, .int (iI 100))] := hl
  refine lv_aload_n hx hb d_Ce_init_0 rfl (lv_at hl 0 rfl) ?_
  refine W.objInit hx hb hown (hts _ wo_Ce_1) (hts _ wo_inst) (hts _ wo_code) rfl (by rw [hml]; exact hl.1) rfl d_Ce_init_1 (Nat.le_of_ble_eq_true rfl) (Nat.le_of_ble_eq_true rfl) ?_
  refine W.eq (g2 := F0 m 4 ls []) rfl ?_
  refine lv_iload_n hx hb d_Ce_init_4 rfl (lv_at hl 1 rfl) ?_
  refine lv_iconst (v := iI 0) hx hb d_Ce_init_5 rfl ?_
  refine y_callS1 (V := .int (iI (max 100 0))) S (c_max l D aC 100 0 (by omega) (by omega)) t_Ce_7 (rm_okx (by decide) (by decide)) hK hN hP [] rfl rfl hl.1 rfl (Nat.le_of_ble_eq_true rfl) d_Ce_init_6 ⟨by decide, by decide⟩ ?_
  refine x_top (max 100 0) 100 (by decide) ?_
  refine lv_istore_n (lv' := [(2, .int (iI 100)), (0, .ref b), (1, .int (iI 100))]) hx hb d_Ce_init_9 rfl hl (by decide) rfl (fun ls hl => ?_)
  refine lv_aload_n hx hb d_Ce_init_10 rfl (lv_at hl 1 rfl) ?_
  refine lv_iload_n hx hb d_Ce_init_11 rfl (lv_at hl 0 rfl) ?_
  refine x_newa (atype := .int) (ty := .int) hx hb rfl (hts _ wa_I) hK hP hD hS hA 0 rfl (fun _ _ h => h) (fun x => nw_I x 100) (by decide) (by decide) (by decide) (by decide) d_Ce_init_12 (fun q12 H hP hD hS => ?_)
  have hP : va_P D CL [(b, .inr (2, [.null, .null, .null, .int (iI 0)])), (q12, eI aC 100 (fun _ => 0))] H := hP
  have hD : va_D (va_A [(b, .inr (2, [.null, .null, .null, .int (iI 0)]))] s.heap.size) [(b, .inr (2, [.null, .null, .null, .int (iI 0)])), (q12, eI aC 100 (fun _ => 0))] := hD
  refine va_putF (D := D) (ci := 2) (v := .ref q12) (ty := (.array .int)) (C := R_Ce) (T := F_Ce) (N := 4) hx hb hts i_Ce t_Ce t_Ce_ok n_Ce hown hK hP hD hS 0 rfl rfl 0 (by decide) (hts _ wf_Ce_13) (fun _ h9 => h9) rfl hin rfl (by decide +kernel) rfl rfl (Nat.le_of_ble_eq_true rfl) d_Ce_init_14 (fun H locs hP hD hS => ?_)
  have hP : va_P D CL [(b, .inr (2, [.ref q12, .null, .null, .int (iI 0)])), (q12, eI aC 100 (fun _ => 0))] H := hP
  have hD : va_D (va_A [(b, .inr (2, [.null, .null, .null, .int (iI 0)]))] s.heap.size) [(b, .inr (2, [.ref q12, .null, .null, .int (iI 0)])), (q12, eI aC 100 (fun _ => 0))] := hD
  refine lv_aload_n hx hb d_Ce_init_17 rfl (lv_at hl 1 rfl) ?_
  refine lv_iload_n hx hb d_Ce_init_18 rfl (lv_at hl 0 rfl) ?_
  refine x_newa (atype := .int) (ty := .int) hx hb rfl (hts _ wa_I) hK hP hD hS hA 0 rfl (fun _ _ h => h) (fun x => nw_I x 100) (by decide) (by decide) (by decide) (by decide) d_Ce_init_19 (fun q19 H hP hD hS => ?_)
  have hP : va_P D CL [(b, .inr (2, [.ref q12, .null, .null, .int (iI 0)])), (q12, eI aC 100 (fun _ => 0)), (q19, eI aC 100 (fun _ => 0))] H := hP
  have hD : va_D (va_A [(b, .inr (2, [.null, .null, .null, .int (iI 0)]))] s.heap.size) [(b, .inr (2, [.ref q12, .null, .null, .int (iI 0)])), (q12, eI aC 100 (fun _ => 0)), (q19, eI aC 100 (fun _ => 0))] := hD
  refine va_putF (D := D) (ci := 2) (v := .ref q19) (ty := (.array .int)) (C := R_Ce) (T := F_Ce) (N := 4) hx hb hts i_Ce t_Ce t_Ce_ok n_Ce hown hK hP hD hS 0 rfl rfl 1 (by decide) (hts _ wf_Ce_19) (fun _ h9 => h9) rfl hin rfl (by decide +kernel) rfl rfl (Nat.le_of_ble_eq_true rfl) d_Ce_init_21 (fun H locs hP hD hS => ?_)
  have hP : va_P D CL [(b, .inr (2, [.ref q12, .ref q19, .null, .int (iI 0)])), (q12, eI aC 100 (fun _ => 0)), (q19, eI aC 100 (fun _ => 0))] H := hP
  have hD : va_D (va_A [(b, .inr (2, [.null, .null, .null, .int (iI 0)]))] s.heap.size) [(b, .inr (2, [.ref q12, .ref q19, .null, .int (iI 0)])), (q12, eI aC 100 (fun _ => 0)), (q19, eI aC 100 (fun _ => 0))] := hD
  refine lv_aload_n hx hb d_Ce_init_24 rfl (lv_at hl 1 rfl) ?_
  refine va_new (ci := 0) (fs := [.null, .null]) (C := R_Nu) (T := F_Nu) (N := 2) hx hb hts i_Nu t_Nu t_Nu_ok hown (hts _ wl_Ce_22) (hts _ wn_Nu) (hts _ wi_Nu) hK hP hD hS hA rfl (fun j hj => by
      match j, hj with
      | 0, _ => exact rfl
      | 1, _ => exact rfl
      | k + 2, h => exact absurd h (by omega)) (by decide) (by decide) d_Ce_init_25 (fun q25 H hP hD hS => ?_)
  have hP : va_P D CL [(b, .inr (2, [.ref q12, .ref q19, .null, .int (iI 0)])), (q12, eI aC 100 (fun _ => 0)), (q19, eI aC 100 (fun _ => 0)), (q25, .inr (0, [.null, .null]))] H := hP
  have hD : va_D (va_A [(b, .inr (2, [.null, .null, .null, .int (iI 0)]))] s.heap.size) [(b, .inr (2, [.ref q12, .ref q19, .null, .int (iI 0)])), (q12, eI aC 100 (fun _ => 0)), (q19, eI aC 100 (fun _ => 0)), (q25, .inr (0, [.null, .null]))] := hD
  refine lv_dup hx hb d_Ce_init_28 rfl ?_
  refine lv_iload_n hx hb d_Ce_init_29 rfl (lv_at hl 0 rfl) ?_
  refine x_callI (wr := [(b, .inr (2, [.ref q12, .ref q19, .null, .int (iI 0)])), (q12, eI aC 100 (fun _ => 0)), (q19, eI aC 100 (fun _ => 0))]) S (c_Nu_init_100 l D aC q25) ti_Ce_24 (rx_ok (by decide) (by decide)) hK hN hP hD hS hA [3] [0, 1, 2] rfl rfl (by decide +kernel) (by decide +kernel) (by decide +kernel) rfl hl.1 rfl (Nat.le_of_ble_eq_true rfl) d_Ce_init_30 ⟨by decide, by decide⟩ (fun w1 H locs hw hP hD hS => ?_)
  obtain ⟨u1_1, u2_1, rfl⟩ := hw
  have hP : va_P D CL [(b, .inr (2, [.ref q12, .ref q19, .null, .int (iI 0)])), (q12, eI aC 100 (fun _ => 0)), (q19, eI aC 100 (fun _ => 0)), (q25, .inr (0, [.ref u1_1, .ref u2_1])), (u1_1, eJ aC 100 (fun _ => 0)), (u2_1, eI aC 100 (fun _ => 0))] H := hP
  have hD : va_D (va_A [(b, .inr (2, [.null, .null, .null, .int (iI 0)]))] s.heap.size) [(b, .inr (2, [.ref q12, .ref q19, .null, .int (iI 0)])), (q12, eI aC 100 (fun _ => 0)), (q19, eI aC 100 (fun _ => 0)), (q25, .inr (0, [.ref u1_1, .ref u2_1])), (u1_1, eJ aC 100 (fun _ => 0)), (u2_1, eI aC 100 (fun _ => 0))] := hD
  refine va_putF (D := D) (ci := 2) (v := .ref q25) (ty := .object "CertificateDesk$Numbers") (C := R_Ce) (T := F_Ce) (N := 4) hx hb hts i_Ce t_Ce t_Ce_ok n_Ce hown hK hP hD hS 0 rfl rfl 2 (by decide) (hts _ wf_Ce_27) (fun _ h9 => h9) rfl hin rfl (by decide +kernel) rfl rfl (Nat.le_of_ble_eq_true rfl) d_Ce_init_33 (fun H locs hP hD hS => ?_)
  have hP : va_P D CL [(b, .inr (2, [.ref q12, .ref q19, .ref q25, .int (iI 0)])), (q12, eI aC 100 (fun _ => 0)), (q19, eI aC 100 (fun _ => 0)), (q25, .inr (0, [.ref u1_1, .ref u2_1])), (u1_1, eJ aC 100 (fun _ => 0)), (u2_1, eI aC 100 (fun _ => 0))] H := hP
  have hD : va_D (va_A [(b, .inr (2, [.null, .null, .null, .int (iI 0)]))] s.heap.size) [(b, .inr (2, [.ref q12, .ref q19, .ref q25, .int (iI 0)])), (q12, eI aC 100 (fun _ => 0)), (q19, eI aC 100 (fun _ => 0)), (q25, .inr (0, [.ref u1_1, .ref u2_1])), (u1_1, eJ aC 100 (fun _ => 0)), (u2_1, eI aC 100 (fun _ => 0))] := hD
  have hP9 := hP.sub (ws' := [(b, .inr (2, [.ref q12, .ref q19, .ref q25, .int (iI 0)])), (q12, eI aC 100 (fun _ => 0)), (q19, eI aC 100 (fun _ => 0)), (q25, .inr (0, [.ref u1_1, .ref u2_1])), (u1_1, eJ aC 100 (fun _ => 0)), (u2_1, eI aC 100 (fun _ => 0))]) [0, 1, 2, 3, 4, 5] rfl
  have hD9 := hD.sub (ws' := [(b, .inr (2, [.ref q12, .ref q19, .ref q25, .int (iI 0)])), (q12, eI aC 100 (fun _ => 0)), (q19, eI aC 100 (fun _ => 0)), (q25, .inr (0, [.ref u1_1, .ref u2_1])), (u1_1, eJ aC 100 (fun _ => 0)), (u2_1, eI aC 100 (fun _ => 0))]) [0, 1, 2, 3, 4, 5] (by decide +kernel) rfl
  exact x_ivret hx hb hr hlocks hQ ⟨by decide, by decide⟩ (⟨q12, q19, q25, u1_1, u2_1, rfl⟩) hP9 hD9 hS d_Ce_init_36
set_option maxHeartbeats 4000000 in
set_option maxRecDepth 100000 in
theorem c_Pr_init (l : Launch) (D : va_G) (aC : Nat → ClassId) (b : Nat) : IT l D aC y_Pr_init (rx 1 40 1 6) 1 6 [.ref b] [(b, .inr (3, [.null, .int (iI 0), .int (iI 0)]))] (fun w => ∃ q1 : Nat, w = [(b, .inr (3, [.ref q1, .int (iI 0), .int (iI 0)])), (q1, eJ aC 6 (fun _ => 0))]) := by
  refine IT.of (cc := b_Pr_init) (maxL := 1) (by decide +kernel) k_Pr_init rfl (Nat.le_of_ble_eq_true rfl) ?_
  intro p e s m below meth c Q S hr hlocks hin hQ hK hN hP hD hS ls hl
  obtain ⟨hx, hb, hml, hown, hts⟩ := id S
  have hA : ∀ q, s.heap.size ≤ q → va_A [(b, .inr (3, [.null, .int (iI 0), .int (iI 0)]))] s.heap.size q := fun q h => Or.inr h
  have hl : lv_has ls 1 [(0, .ref b)] := hl
  refine lv_aload_n hx hb d_Pr_init_0 rfl (lv_at hl 0 rfl) ?_
  refine W.objInit hx hb hown (hts _ wo_Pr_1) (hts _ wo_inst) (hts _ wo_code) rfl (by rw [hml]; exact hl.1) rfl d_Pr_init_1 (Nat.le_of_ble_eq_true rfl) (Nat.le_of_ble_eq_true rfl) ?_
  refine W.eq (g2 := F0 m 4 ls []) rfl ?_
  refine lv_aload_n hx hb d_Pr_init_4 rfl (lv_at hl 0 rfl) ?_
  refine lv_bipush (v := iI 6) hx hb d_Pr_init_5 (by decide +kernel) ?_
  refine x_newa (atype := .long) (ty := .long) hx hb rfl (hts _ wa_J) hK hP hD hS hA 1 rfl (fun _ _ h => h) (fun x => nw_J x 6) (by decide) (by decide) (by decide) (by decide) d_Pr_init_7 (fun q7 H hP hD hS => ?_)
  have hP : va_P D CL [(b, .inr (3, [.null, .int (iI 0), .int (iI 0)])), (q7, eJ aC 6 (fun _ => 0))] H := hP
  have hD : va_D (va_A [(b, .inr (3, [.null, .int (iI 0), .int (iI 0)]))] s.heap.size) [(b, .inr (3, [.null, .int (iI 0), .int (iI 0)])), (q7, eJ aC 6 (fun _ => 0))] := hD
  refine va_putF (D := D) (ci := 3) (v := .ref q7) (ty := (.array .long)) (C := R_Pr) (T := F_Pr) (N := 3) hx hb hts i_Pr t_Pr t_Pr_ok n_Pr hown hK hP hD hS 0 rfl rfl 0 (by decide) (hts _ wf_Pr_9) (fun _ h9 => h9) rfl hin rfl (by decide +kernel) rfl rfl (Nat.le_of_ble_eq_true rfl) d_Pr_init_9 (fun H locs hP hD hS => ?_)
  have hP : va_P D CL [(b, .inr (3, [.ref q7, .int (iI 0), .int (iI 0)])), (q7, eJ aC 6 (fun _ => 0))] H := hP
  have hD : va_D (va_A [(b, .inr (3, [.null, .int (iI 0), .int (iI 0)]))] s.heap.size) [(b, .inr (3, [.ref q7, .int (iI 0), .int (iI 0)])), (q7, eJ aC 6 (fun _ => 0))] := hD
  exact x_ivret hx hb hr hlocks hQ ⟨by decide, by decide⟩ (⟨q7, rfl⟩) hP hD hS d_Pr_init_12
set_option maxHeartbeats 4000000 in
set_option maxRecDepth 100000 in
theorem c_Ex_init (l : Launch) (D : va_G) (aC : Nat → ClassId) (b : Nat) : IT l D aC y_Ex_init (rx 1 40 1 112) 1 112 [.ref b] [(b, .inr (4, [.null, .long (lI 0), .int (iI 0)]))] (fun w => ∃ q1 : Nat, w = [(b, .inr (4, [.ref q1, .long (lI 0), .int (iI 0)])), (q1, eJ aC 112 (fun _ => 0))]) := by
  refine IT.of (cc := b_Ex_init) (maxL := 1) (by decide +kernel) k_Ex_init rfl (Nat.le_of_ble_eq_true rfl) ?_
  intro p e s m below meth c Q S hr hlocks hin hQ hK hN hP hD hS ls hl
  obtain ⟨hx, hb, hml, hown, hts⟩ := id S
  have hA : ∀ q, s.heap.size ≤ q → va_A [(b, .inr (4, [.null, .long (lI 0), .int (iI 0)]))] s.heap.size q := fun q h => Or.inr h
  have hl : lv_has ls 1 [(0, .ref b)] := hl
  refine lv_aload_n hx hb d_Ex_init_0 rfl (lv_at hl 0 rfl) ?_
  refine W.objInit hx hb hown (hts _ wo_Ex_3) (hts _ wo_inst) (hts _ wo_code) rfl (by rw [hml]; exact hl.1) rfl d_Ex_init_1 (Nat.le_of_ble_eq_true rfl) (Nat.le_of_ble_eq_true rfl) ?_
  refine W.eq (g2 := F0 m 4 ls []) rfl ?_
  refine lv_aload_n hx hb d_Ex_init_4 rfl (lv_at hl 0 rfl) ?_
  refine lv_bipush (v := iI 112) hx hb d_Ex_init_5 (by decide +kernel) ?_
  refine x_newa (atype := .long) (ty := .long) hx hb rfl (hts _ wa_J) hK hP hD hS hA 1 rfl (fun _ _ h => h) (fun x => nw_J x 112) (by decide) (by decide) (by decide) (by decide) d_Ex_init_7 (fun q7 H hP hD hS => ?_)
  have hP : va_P D CL [(b, .inr (4, [.null, .long (lI 0), .int (iI 0)])), (q7, eJ aC 112 (fun _ => 0))] H := hP
  have hD : va_D (va_A [(b, .inr (4, [.null, .long (lI 0), .int (iI 0)]))] s.heap.size) [(b, .inr (4, [.null, .long (lI 0), .int (iI 0)])), (q7, eJ aC 112 (fun _ => 0))] := hD
  refine va_putF (D := D) (ci := 4) (v := .ref q7) (ty := (.array .long)) (C := R_Ex) (T := F_Ex) (N := 3) hx hb hts i_Ex t_Ex t_Ex_ok n_Ex hown hK hP hD hS 0 rfl rfl 0 (by decide) (hts _ wf_Ex_9) (fun _ h9 => h9) rfl hin rfl (by decide +kernel) rfl rfl (Nat.le_of_ble_eq_true rfl) d_Ex_init_9 (fun H locs hP hD hS => ?_)
  have hP : va_P D CL [(b, .inr (4, [.ref q7, .long (lI 0), .int (iI 0)])), (q7, eJ aC 112 (fun _ => 0))] H := hP
  have hD : va_D (va_A [(b, .inr (4, [.null, .long (lI 0), .int (iI 0)]))] s.heap.size) [(b, .inr (4, [.ref q7, .long (lI 0), .int (iI 0)])), (q7, eJ aC 112 (fun _ => 0))] := hD
  exact x_ivret hx hb hr hlocks hQ ⟨by decide, by decide⟩ (⟨q7, rfl⟩) hP hD hS d_Ex_init_12
