/-! arrays whose elements are whole numbers, or doubles m * 2 ^ q; contracts over a list of cells; calls -/
def updI (f : Int → Int) (i v : Int) : Int → Int := fun j => if j = i then v else f j
theorem updI_s (f : Int → Int) (i v : Int) : updI f i v i = v := if_pos rfl
theorem updI_n {f : Int → Int} {i v j : Int} (h : j ≠ i) : updI f i v j = f j := if_neg h
def TY (aC : Nat → ClassId) : List (ClassId × FieldType) := [(aC 0, .int), (aC 1, .long), (aC 2, .double), (aC 3, .boolean)]
def eI (aC : Nat → ClassId) (n : Nat) (f : Int → Int) : va_E := .inl (aC 0, n, .inl (fun k : Nat => iI (f (k : Int))))
def eZ (aC : Nat → ClassId) (n : Nat) (f : Int → Int) : va_E := .inl (aC 3, n, .inl (fun k : Nat => iI (f (k : Int))))
def eJ (aC : Nat → ClassId) (n : Nat) (f : Int → Int) : va_E := .inl (aC 1, n, .inr (.inl (fun k : Nat => lI (f (k : Int)))))
def eD (aC : Nat → ClassId) (n : Nat) (f : Int → UInt64) : va_E := .inl (aC 2, n, .inr (.inr (.inr (.inl (fun k : Nat => f (k : Int))))))
def updD (f : Int → UInt64) (i : Int) (v : UInt64) : Int → UInt64 := fun j => if j = i then v else f j
theorem updD_s (f : Int → UInt64) (i : Int) (v : UInt64) : updD f i v i = v := if_pos rfl
theorem updD_n {f : Int → UInt64} {i j : Int} {v : UInt64} (h : j ≠ i) : updD f i v j = f j := if_neg h
theorem nat_at {i : Int} (h : 0 ≤ i) (k : Nat) : k = i.toNat ↔ (k : Int) = i := by omega
theorem eI_upd (aC : Nat → ClassId) (n : Nat) (f : Int → Int) {i : Int} (hi : 0 ≤ i ∧ i < 2147483648) (v : Int) : eI aC n (updI f i v) = .inl (aC 0, n, .inl (upd (fun k : Nat => iI (f (k : Int))) (iI i).toNatClampNeg (iI v))) := by
  unfold eI; congr 3; congr 1; funext k
  rw [iI_clamp hi]; unfold updI upd
  by_cases h : (k : Int) = i
  · rw [if_pos h, if_pos ((nat_at hi.1 k).mpr h)]
  · rw [if_neg h, if_neg (fun q => h ((nat_at hi.1 k).mp q))]
theorem eZ_upd (aC : Nat → ClassId) (n : Nat) (f : Int → Int) {i : Int} (hi : 0 ≤ i ∧ i < 2147483648) {v : Int} (hv : v = 0 ∨ v = 1) : eZ aC n (updI f i v) = .inl (aC 3, n, .inl (upd (fun k : Nat => iI (f (k : Int))) (iI i).toNatClampNeg (vp_nar .boolean (iI v)))) := by
  have e : vp_nar .boolean (iI v) = iI v := by rcases hv with rfl | rfl <;> rfl
  rw [e]
  unfold eZ; congr 3; congr 1; funext k
  rw [iI_clamp hi]; unfold updI upd
  by_cases h : (k : Int) = i
  · rw [if_pos h, if_pos ((nat_at hi.1 k).mpr h)]
  · rw [if_neg h, if_neg (fun q => h ((nat_at hi.1 k).mp q))]
theorem eJ_upd (aC : Nat → ClassId) (n : Nat) (f : Int → Int) {i : Int} (hi : 0 ≤ i ∧ i < 2147483648) (v : Int) : eJ aC n (updI f i v) = .inl (aC 1, n, .inr (.inl (vp_updL (fun k : Nat => lI (f (k : Int))) (iI i).toNatClampNeg (lI v)))) := by
  unfold eJ; congr 4; congr 1; funext k
  rw [iI_clamp hi]; unfold updI vp_updL
  by_cases h : (k : Int) = i
  · rw [if_pos h, if_pos ((nat_at hi.1 k).mpr h)]
  · rw [if_neg h, if_neg (fun q => h ((nat_at hi.1 k).mp q))]
theorem eD_upd (aC : Nat → ClassId) (n : Nat) (f : Int → UInt64) {i : Int} (hi : 0 ≤ i ∧ i < 2147483648) (v : UInt64) : eD aC n (updD f i v) = .inl (aC 2, n, .inr (.inr (.inr (.inl (vf_upd (fun k : Nat => f (k : Int)) (iI i).toNatClampNeg v))))) := by
  unfold eD; congr 6; congr 1; funext k
  rw [iI_clamp hi]; unfold updD vf_upd
  by_cases h : (k : Int) = i
  · rw [if_pos h, if_pos ((nat_at hi.1 k).mpr h)]
  · rw [if_neg h, if_neg (fun q => h ((nat_at hi.1 k).mp q))]
section XA
variable {p : Program} {l : Launch} {e : Env} {R : Room} {s : State} {m : MethodId} {args : Array Value} {below : List Frame} {meth : Method} {c : Code} {H : Heap} {locs : List Loc} {cells slots : Nat} {Q : State → Prop}
variable {cc : ByteArray} {pc : Nat} {ls : Array Slot} {rest : List Value} {D : va_G} {cl : List vw_C} {A : Nat → Prop} {a : Nat} {aC : Nat → ClassId} {ws : va_W} {H0 : Heap}
theorem x_iald (hx : p.tables.exec = Jvm.exec) (hb : c.code = cc) (hK : va_K D cl (TY aC) s) (hP : va_P D cl ws H) (q0 : Nat) {n : Nat} {f : Int → Int} (ha : ws[q0]? = some (a, eI aC n f)) {i : Int} (hi : 0 ≤ i ∧ i < (n : Int)) (hn : n < 2147483648) (hdg : decode cc pc = .ok (.iaload, 1))
    (kk : W p l e R s m args below meth c H locs cells slots Q (F0 m (pc + 1) ls (.int (iI (f i)) :: rest))) : W p l e R s m args below meth c H locs cells slots Q (F0 m pc ls (.int (iI i) :: .ref a :: rest)) := by
  refine va_iald hx hb hK hP q0 0 ha rfl (iI_in hi hn) hdg ?_
  rw [iI_clamp (by omega), Int.toNat_of_nonneg hi.1]; exact kk
theorem x_zald (hx : p.tables.exec = Jvm.exec) (hb : c.code = cc) (hK : va_K D cl (TY aC) s) (hP : va_P D cl ws H) (q0 : Nat) {n : Nat} {f : Int → Int} (ha : ws[q0]? = some (a, eZ aC n f)) {i : Int} (hi : 0 ≤ i ∧ i < (n : Int)) (hn : n < 2147483648) (hdg : decode cc pc = .ok (.baload, 1))
    (kk : W p l e R s m args below meth c H locs cells slots Q (F0 m (pc + 1) ls (.int (iI (f i)) :: rest))) : W p l e R s m args below meth c H locs cells slots Q (F0 m pc ls (.int (iI i) :: .ref a :: rest)) := by
  refine va_zald hx hb hK hP q0 3 ha rfl (iI_in hi hn) hdg ?_
  rw [iI_clamp (by omega), Int.toNat_of_nonneg hi.1]; exact kk
theorem x_lald (hx : p.tables.exec = Jvm.exec) (hb : c.code = cc) (hK : va_K D cl (TY aC) s) (hP : va_P D cl ws H) (q0 : Nat) {n : Nat} {f : Int → Int} (ha : ws[q0]? = some (a, eJ aC n f)) {i : Int} (hi : 0 ≤ i ∧ i < (n : Int)) (hn : n < 2147483648) (hdg : decode cc pc = .ok (.laload, 1))
    (kk : W p l e R s m args below meth c H locs cells slots Q (F0 m (pc + 1) ls (.long (lI (f i)) :: rest))) : W p l e R s m args below meth c H locs cells slots Q (F0 m pc ls (.int (iI i) :: .ref a :: rest)) := by
  refine va_lald hx hb hK hP q0 1 ha rfl (iI_in hi hn) hdg ?_
  rw [iI_clamp (by omega), Int.toNat_of_nonneg hi.1]; exact kk
theorem x_dald (hx : p.tables.exec = Jvm.exec) (hb : c.code = cc) (hK : va_K D cl (TY aC) s) (hP : va_P D cl ws H) (q0 : Nat) {n : Nat} {f : Int → UInt64} (ha : ws[q0]? = some (a, eD aC n f)) {i : Int} (hi : 0 ≤ i ∧ i < (n : Int)) (hn : n < 2147483648) (hdg : decode cc pc = .ok (.daload, 1))
    (kk : W p l e R s m args below meth c H locs cells slots Q (F0 m (pc + 1) ls (.double (f i) :: rest))) : W p l e R s m args below meth c H locs cells slots Q (F0 m pc ls (.int (iI i) :: .ref a :: rest)) := by
  refine va_dald hx hb hK hP q0 2 ha rfl (iI_in hi hn) hdg ?_
  rw [iI_clamp (by omega), Int.toNat_of_nonneg hi.1]; exact kk
theorem x_iast (hx : p.tables.exec = Jvm.exec) (hb : c.code = cc) (hK : va_K D cl (TY aC) s) (hP : va_P D cl ws H) (hD : va_D A ws) (hS : va_S A H0 H locs) (q0 : Nat) {n : Nat} {f : Int → Int} (ha : ws[q0]? = some (a, eI aC n f)) {i v : Int} (hi : 0 ≤ i ∧ i < (n : Int)) (hn : n < 2147483648) (hdg : decode cc pc = .ok (.iastore, 1))
    (kk : ∀ (H1 : Heap) (locs1 : List Loc), va_P D cl (ws.set q0 (a, eI aC n (updI f i v))) H1 → va_D A (ws.set q0 (a, eI aC n (updI f i v))) → va_S A H0 H1 locs1 → W p l e R s m args below meth c H1 locs1 cells slots Q (F0 m (pc + 1) ls rest)) : W p l e R s m args below meth c H locs cells slots Q (F0 m pc ls (.int (iI v) :: .int (iI i) :: .ref a :: rest)) := by
  refine va_iast hx hb hK hP hD hS q0 0 ha rfl (iI_in hi hn) hdg (fun H1 locs1 h1 h2 h3 => kk H1 locs1 ?_ ?_ h3)
  · rw [eI_upd aC n f (by omega)]; exact h1
  · rw [eI_upd aC n f (by omega)]; exact h2
theorem x_zast (hx : p.tables.exec = Jvm.exec) (hb : c.code = cc) (hK : va_K D cl (TY aC) s) (hP : va_P D cl ws H) (hD : va_D A ws) (hS : va_S A H0 H locs) (q0 : Nat) {n : Nat} {f : Int → Int} (ha : ws[q0]? = some (a, eZ aC n f)) {i v : Int} (hi : 0 ≤ i ∧ i < (n : Int)) (hn : n < 2147483648) (hv : v = 0 ∨ v = 1) (hdg : decode cc pc = .ok (.bastore, 1))
    (kk : ∀ (H1 : Heap) (locs1 : List Loc), va_P D cl (ws.set q0 (a, eZ aC n (updI f i v))) H1 → va_D A (ws.set q0 (a, eZ aC n (updI f i v))) → va_S A H0 H1 locs1 → W p l e R s m args below meth c H1 locs1 cells slots Q (F0 m (pc + 1) ls rest)) : W p l e R s m args below meth c H locs cells slots Q (F0 m pc ls (.int (iI v) :: .int (iI i) :: .ref a :: rest)) := by
  refine va_zast hx hb hK hP hD hS q0 3 ha rfl (iI_in hi hn) hdg (fun H1 locs1 h1 h2 h3 => kk H1 locs1 ?_ ?_ h3)
  · rw [eZ_upd aC n f (by omega) hv]; exact h1
  · rw [eZ_upd aC n f (by omega) hv]; exact h2
theorem x_last (hx : p.tables.exec = Jvm.exec) (hb : c.code = cc) (hK : va_K D cl (TY aC) s) (hP : va_P D cl ws H) (hD : va_D A ws) (hS : va_S A H0 H locs) (q0 : Nat) {n : Nat} {f : Int → Int} (ha : ws[q0]? = some (a, eJ aC n f)) {i v : Int} (hi : 0 ≤ i ∧ i < (n : Int)) (hn : n < 2147483648) (hdg : decode cc pc = .ok (.lastore, 1))
    (kk : ∀ (H1 : Heap) (locs1 : List Loc), va_P D cl (ws.set q0 (a, eJ aC n (updI f i v))) H1 → va_D A (ws.set q0 (a, eJ aC n (updI f i v))) → va_S A H0 H1 locs1 → W p l e R s m args below meth c H1 locs1 cells slots Q (F0 m (pc + 1) ls rest)) : W p l e R s m args below meth c H locs cells slots Q (F0 m pc ls (.long (lI v) :: .int (iI i) :: .ref a :: rest)) := by
  refine va_last hx hb hK hP hD hS q0 1 ha rfl (iI_in hi hn) hdg (fun H1 locs1 h1 h2 h3 => kk H1 locs1 ?_ ?_ h3)
  · rw [eJ_upd aC n f (by omega)]; exact h1
  · rw [eJ_upd aC n f (by omega)]; exact h2
theorem x_dast (hx : p.tables.exec = Jvm.exec) (hb : c.code = cc) (hK : va_K D cl (TY aC) s) (hP : va_P D cl ws H) (hD : va_D A ws) (hS : va_S A H0 H locs) (q0 : Nat) {n : Nat} {f : Int → UInt64} (ha : ws[q0]? = some (a, eD aC n f)) {i : Int} {v : UInt64} (hi : 0 ≤ i ∧ i < (n : Int)) (hn : n < 2147483648) (hdg : decode cc pc = .ok (.dastore, 1))
    (kk : ∀ (H1 : Heap) (locs1 : List Loc), va_P D cl (ws.set q0 (a, eD aC n (updD f i v))) H1 → va_D A (ws.set q0 (a, eD aC n (updD f i v))) → va_S A H0 H1 locs1 → W p l e R s m args below meth c H1 locs1 cells slots Q (F0 m (pc + 1) ls rest)) : W p l e R s m args below meth c H locs cells slots Q (F0 m pc ls (.double v :: .int (iI i) :: .ref a :: rest)) := by
  refine va_dast hx hb hK hP hD hS q0 2 ha rfl (iI_in hi hn) hdg (fun H1 locs1 h1 h2 h3 => kk H1 locs1 ?_ ?_ h3)
  · rw [eD_upd aC n f (by omega)]; exact h1
  · rw [eD_upd aC n f (by omega)]; exact h2
/-- the length: of any of the four kinds (t0: its place in TY) -/
theorem x_alen (hx : p.tables.exec = Jvm.exec) (hb : c.code = cc) (hK : va_K D cl (TY aC) s) (hP : va_P D cl ws H) (q0 t0 : Nat) {cA : ClassId} {x : vp_A} (ha : ws[q0]? = some (a, .inl (cA, x))) {ty : FieldType} (ht : (TY aC)[t0]? = some (cA, ty)) {n : Nat} (hn : x.1 = n) (hdg : decode cc pc = .ok (.arraylength, 1))
    (kk : W p l e R s m args below meth c H locs cells slots Q (F0 m (pc + 1) ls (.int (iI (n : Int)) :: rest))) : W p l e R s m args below meth c H locs cells slots Q (F0 m pc ls (.ref a :: rest)) :=
  va_alen hx hb hK hP q0 t0 ha ht (v := iI (n : Int)) (by rw [hn]; exact iI_nat n) hdg kk
end XA
/-! contracts -/
def NW (U : State) : Prop := ∀ w ∈ NL, va_Nw w U
def isNest : Cond → Bool
  | .fieldLinkNest .. => true
  | .methodLinkNest .. => true
  | _ => false
theorem NL_nest : ∀ w ∈ NL, isNest w = true := by decide +kernel
theorem NW.warm {s U : State} (hW : s.WarmedH U.vm) (h : NW s) : NW U := fun w hw => by
  have h1 := h w hw
  have h2 := NL_nest w hw
  cases w <;> first | exact va_Nw.warmF hW h1 | exact va_Nw.warmM hW h1 | (simp [isNest] at h2; done)
theorem NW.calling {U : State} (h : NW U) (g : JFrame) (mk : MethodId) (a : Array Value) : NW (U.calling g mk a) := fun w hw => by
  have h1 := h w hw
  have h2 := NL_nest w hw
  cases w <;> first | exact va_tabs (u := U) (U := U.calling g mk a) rfl rfl h1 | (simp [isNest] at h2; done)
def aW (wc : va_W) (q : Nat) : Prop := ∃ (k : Nat) (e : va_E), wc[k]? = some (q, e)
def cP (D : va_G) (aC : Nat → ClassId) (av : List Value) (wc : va_W) : Array Value → State → Prop := va_Pc av (fun U => va_P D CL wc U.heap ∧ va_K D CL (TY aC) U ∧ NW U ∧ va_D (fun _ => True) wc)
def cQ (D : va_G) (wc : va_W) (post : Option Value → va_W → Prop) : Array Value → State → Outcome → State → Prop := fun _ st oc t => (∃ (v : Option Value) (w1 : va_W), oc = .returned v ∧ post v w1 ∧ w1.map Prod.fst = wc.map Prod.fst ∧ va_P D CL w1 t.heap) ∧ va_F (aW wc) st t
/-- a method that makes nothing and changes the cells wc alone -/
def CT (l : Launch) (D : va_G) (aC : Nat → ClassId) (y : MethodName) (rm : Room) (av : List Value) (wc : va_W) (post : Option Value → va_W → Prop) : Prop := Met l y TB rm (cP D aC av wc) (cQ D wc post) 0 0 (aW wc)
def rP (D : va_G) (aC : Nat → ClassId) (av : List Value) (wc : va_W) : Array Value → State → Prop := va_Pc av (fun U => va_P D CL wc U.heap ∧ va_K D CL (TY aC) U ∧ NW U)
def rQ (post : Option Value → Prop) : Array Value → State → Outcome → State → Prop := fun _ st oc t => (∃ v : Option Value, oc = .returned v ∧ post v) ∧ t.heap = st.heap
/-- a method that changes nothing -/
def CR (l : Launch) (D : va_G) (aC : Nat → ClassId) (y : MethodName) (rm : Room) (av : List Value) (wc : va_W) (post : Option Value → Prop) : Prop := Met l y TB rm (rP D aC av wc) (rQ post) 0 0 (fun _ => False)
theorem cP_blind {D : va_G} {aC : Nat → ClassId} {av : List Value} {wc : va_W} : FrameBlind (cP D aC av wc) := fun a U g mk q => by
  obtain ⟨q0, qP, qK, qN, qD⟩ := q
  exact ⟨q0, qP, va_K.moved (u := U) (U := U.calling g mk a) (Vm.Alike.refl U.vm) qK, qN.calling g mk a, qD⟩
theorem rP_blind {D : va_G} {aC : Nat → ClassId} {av : List Value} {wc : va_W} : FrameBlind (rP D aC av wc) := fun a U g mk q => by
  obtain ⟨q0, qP, qK, qN⟩ := q
  exact ⟨q0, qP, va_K.moved (u := U) (U := U.calling g mk a) (Vm.Alike.refl U.vm) qK, qN.calling g mk a⟩
theorem met_of {l : Launch} {y : MethodName} {ws : List Cond} {rm : Room} {Pc : Array Value → State → Prop} {Qc : Array Value → State → Outcome → State → Prop} {mc ms : Nat} {free : Addr → Prop} {cc : ByteArray} {maxL : Nat} {ret : Option FieldType}
    (hy : plainFor y = true) (hw : Cond.code y cc maxL ret ∈ ws)
    (body : ∀ p e s m args below meth c s₁, BodyLoose p l y (headSpec ws rm) cc maxL ret e s m args below meth c s₁ → c.maxLocals = maxL → Pc args s →
      W p l e (headSpec ws rm).room s m args below meth c s.heap [] 0 0 (MQ below Qc args s mc ms free) (entryFrame m args maxL)) : Met l y ws rm Pc Qc mc ms free := by
  refine MetFree.of_bodySF (code := cc) (maxLocals := maxL) (ret := ret) hy ?_ ?_
  · intro args s m h hn
    obtain ⟨meth, c, h1, h2, h3, h4, h5, h6, -, -⟩ := Cond.code_spec hn (atoms_spec (ws := ws) h _ hw)
    exact ⟨meth, c, h1, h2, h3, h4, h5, h6⟩
  · intro p e s m args below meth c s₁ B hml hP _
    have hh0 : s₁.heap = s.heap := by rw [B.state]; rfl
    obtain ⟨t, a1, o, b1, b2, b3⟩ := body p e s m args below meth c s₁ B hml hP s₁ hh0 (Stand.of_body B)
    exact ⟨t, o, a1, b1, b2, ⟨b3.1, b3.2⟩⟩
/-- what the walk of a body begins with -/
theorem CT.of {l : Launch} {D : va_G} {aC : Nat → ClassId} {y : MethodName} {rm : Room} {av : List Value} {wc : va_W} {post : Option Value → va_W → Prop} {cc : ByteArray} {maxL : Nat} {ret : Option FieldType}
    (hy : plainFor y = true) (hw : Cond.code y cc maxL ret ∈ TB) (hlen : (lg_sl av).length ≤ maxL)
    (body : ∀ (p : Program) (e : Env) (s : State) (m : MethodId) (below : List Frame) (meth : Method) (c : Code) (Q : State → Prop), CallFix p m c cc maxL s av.toArray TB y.cls → meth.sig.returnType = ret → meth.locks = false →
      (∀ t, MQ below (cQ D wc post) av.toArray s 0 0 (aW wc) t → Q t) → va_K D CL (TY aC) s → NW s → va_P D CL wc s.heap → va_D (aW wc) wc → va_S (aW wc) s.heap s.heap [] →
      ∀ ls : Array Slot, lv_has ls maxL (lv_args 0 av) → W p l e rm s m av.toArray below meth c s.heap [] 0 0 Q (F0 m 0 ls [])) : CT l D aC y rm av wc post := by
  refine met_of (cc := cc) (maxL := maxL) (ret := ret) hy hw ?_
  intro p e s m args below meth c s₁ B hml hv
  obtain ⟨rfl, hP, hK, hN, hD⟩ := hv
  have hl := lv_entry av (n := maxL) hlen
  rw [lg_entry_eq]
  exact body p e s m below meth c _ ⟨B.exec, B.bytes, hml, findClass_of_methodNamed B.named, atoms_spec (ws := TB) B.pre⟩ B.returns B.notSynchronized (fun _ h => h) hK hN hP ⟨hD.1, fun k q hk => ⟨k, q.2, hk⟩⟩ va_S.rf _ hl
theorem CR.of {l : Launch} {D : va_G} {aC : Nat → ClassId} {y : MethodName} {rm : Room} {av : List Value} {wc : va_W} {post : Option Value → Prop} {cc : ByteArray} {maxL : Nat} {ret : Option FieldType}
    (hy : plainFor y = true) (hw : Cond.code y cc maxL ret ∈ TB) (hlen : (lg_sl av).length ≤ maxL)
    (body : ∀ (p : Program) (e : Env) (s : State) (m : MethodId) (below : List Frame) (meth : Method) (c : Code) (Q : State → Prop), CallFix p m c cc maxL s av.toArray TB y.cls → meth.sig.returnType = ret → meth.locks = false →
      (∀ t, MQ below (rQ post) av.toArray s 0 0 (fun _ => False) t → Q t) → va_K D CL (TY aC) s → NW s → va_P D CL wc s.heap →
      ∀ ls : Array Slot, lv_has ls maxL (lv_args 0 av) → W p l e rm s m av.toArray below meth c s.heap [] 0 0 Q (F0 m 0 ls [])) : CR l D aC y rm av wc post := by
  refine met_of (cc := cc) (maxL := maxL) (ret := ret) hy hw ?_
  intro p e s m args below meth c s₁ B hml hv
  obtain ⟨rfl, hP, hK, hN⟩ := hv
  have hl := lv_entry av (n := maxL) hlen
  rw [lg_entry_eq]
  exact body p e s m below meth c _ ⟨B.exec, B.bytes, hml, findClass_of_methodNamed B.named, atoms_spec (ws := TB) B.pre⟩ B.returns B.notSynchronized (fun _ h => h) hK hN hP _ hl
section XE
variable {p : Program} {l : Launch} {e : Env} {R : Room} {s : State} {m : MethodId} {args : Array Value} {below : List Frame} {meth : Method} {c : Code} {H : Heap} {locs : List Loc} {Q : State → Prop}
variable {cc : ByteArray} {pc : Nat} {ls : Array Slot} {D : va_G} {wc : va_W} {post : Option Value → va_W → Prop} {rpost : Option Value → Prop}
theorem W.weak {cells slots : Nat} {Q1 Q2 : State → Prop} {g : JFrame} (hQ : ∀ t, Q1 t → Q2 t) (h : W p l e R s m args below meth c H locs cells slots Q1 g) : W p l e R s m args below meth c H locs cells slots Q2 g := fun T hT X => by
  obtain ⟨t, a, b⟩ := h T hT X
  exact ⟨t, a, hQ t b⟩
theorem x_vret (hx : p.tables.exec = Jvm.exec) (hb : c.code = cc) (hr : meth.sig.returnType = none) (hlocks : meth.locks = false) (hQ : ∀ t, MQ below (cQ D wc post) args s 0 0 (aW wc) t → Q t) {w1 : va_W} (hp : post none w1) (ha : w1.map Prod.fst = wc.map Prod.fst) (hP : va_P D CL w1 H) (hS : va_S (aW wc) s.heap H locs) (hdg : decode cc pc = .ok (.return_, 1)) : W p l e R s m args below meth c H locs 0 0 Q (F0 m pc ls []) :=
  W.weak hQ (W.vret (Qc := cQ D wc post) (free := aW wc) hx hb hr (fun t ht _ => ⟨⟨none, w1, rfl, hp, ha, by rw [ht]; exact hP⟩, hS.F ht⟩) hS.2.2 hdg hlocks)
theorem x_iret (hx : p.tables.exec = Jvm.exec) (hb : c.code = cc) (hr : meth.sig.returnType = some .int) (hlocks : meth.locks = false) (hQ : ∀ t, MQ below (cQ D wc post) args s 0 0 (aW wc) t → Q t) {v : Int32} {w1 : va_W} (hp : post (some (.int v)) w1) (ha : w1.map Prod.fst = wc.map Prod.fst) (hP : va_P D CL w1 H) (hS : va_S (aW wc) s.heap H locs) (hdg : decode cc pc = .ok (.ireturn, 1)) : W p l e R s m args below meth c H locs 0 0 Q (F0 m pc ls [.int v]) :=
  W.weak hQ (W.iret (Qc := cQ D wc post) (free := aW wc) hx hb hr (fun t ht _ => ⟨⟨_, w1, rfl, hp, ha, by rw [ht]; exact hP⟩, hS.F ht⟩) hS.2.2 hdg hlocks)
theorem y_iret (hx : p.tables.exec = Jvm.exec) (hb : c.code = cc) (hr : meth.sig.returnType = some .int) (hlocks : meth.locks = false) (hQ : ∀ t, MQ below (rQ rpost) args s 0 0 (fun _ => False) t → Q t) {v : Int32} (hp : rpost (some (.int v))) (hdg : decode cc pc = .ok (.ireturn, 1)) : W p l e R s m args below meth c s.heap [] 0 0 Q (F0 m pc ls [.int v]) :=
  W.weak hQ (W.iret (Qc := rQ rpost) (free := fun _ => False) hx hb hr (fun t ht _ => ⟨⟨_, rfl, hp⟩, ht⟩) (fun q h => by cases h) hdg hlocks)
theorem x_zret {ty : FieldType} {v : Int32} (hx : p.tables.exec = Jvm.exec) (hb : c.code = cc) (hr : meth.sig.returnType = some ty) (hn : narrow ty (.int v) = .int v) (hlocks : meth.locks = false) (hQ : ∀ t, MQ below (cQ D wc post) args s 0 0 (aW wc) t → Q t) {w1 : va_W} (hp : post (some (.int v)) w1) (ha : w1.map Prod.fst = wc.map Prod.fst) (hP : va_P D CL w1 H) (hS : va_S (aW wc) s.heap H locs) (hdg : decode cc pc = .ok (.ireturn, 1)) : W p l e R s m args below meth c H locs 0 0 Q (F0 m pc ls [.int v]) :=
  W.weak hQ (W.zret (Qc := cQ D wc post) (free := aW wc) hx hb hr hn (fun t ht _ => ⟨⟨_, w1, rfl, hp, ha, by rw [ht]; exact hP⟩, hS.F ht⟩) hS.2.2 hdg hlocks)
theorem y_zret {ty : FieldType} {v : Int32} (hx : p.tables.exec = Jvm.exec) (hb : c.code = cc) (hr : meth.sig.returnType = some ty) (hn : narrow ty (.int v) = .int v) (hlocks : meth.locks = false) (hQ : ∀ t, MQ below (rQ rpost) args s 0 0 (fun _ => False) t → Q t) (hp : rpost (some (.int v))) (hdg : decode cc pc = .ok (.ireturn, 1)) : W p l e R s m args below meth c s.heap [] 0 0 Q (F0 m pc ls [.int v]) :=
  W.weak hQ (W.zret (Qc := rQ rpost) (free := fun _ => False) hx hb hr hn (fun t ht _ => ⟨⟨_, rfl, hp⟩, ht⟩) (fun q h => by cases h) hdg hlocks)
theorem x_lret  {v : Int64} (hx : p.tables.exec = Jvm.exec) (hb : c.code = cc) (hr : meth.sig.returnType = some .long)  (hlocks : meth.locks = false) (hQ : ∀ t, MQ below (cQ D wc post) args s 0 0 (aW wc) t → Q t) {w1 : va_W} (hp : post (some (.long v)) w1) (ha : w1.map Prod.fst = wc.map Prod.fst) (hP : va_P D CL w1 H) (hS : va_S (aW wc) s.heap H locs) (hdg : decode cc pc = .ok (.lreturn, 1)) : W p l e R s m args below meth c H locs 0 0 Q (F0 m pc ls [.long v]) :=
  W.weak hQ (W.lret (Qc := cQ D wc post) (free := aW wc) hx hb hr (fun t ht _ => ⟨⟨_, w1, rfl, hp, ha, by rw [ht]; exact hP⟩, hS.F ht⟩) hS.2.2 hdg hlocks)
theorem y_lret  {v : Int64} (hx : p.tables.exec = Jvm.exec) (hb : c.code = cc) (hr : meth.sig.returnType = some .long)  (hlocks : meth.locks = false) (hQ : ∀ t, MQ below (rQ rpost) args s 0 0 (fun _ => False) t → Q t) (hp : rpost (some (.long v))) (hdg : decode cc pc = .ok (.lreturn, 1)) : W p l e R s m args below meth c s.heap [] 0 0 Q (F0 m pc ls [.long v]) :=
  W.weak hQ (W.lret (Qc := rQ rpost) (free := fun _ => False) hx hb hr (fun t ht _ => ⟨⟨_, rfl, hp⟩, ht⟩) (fun q h => by cases h) hdg hlocks)
theorem x_dret  {v : UInt64} (hx : p.tables.exec = Jvm.exec) (hb : c.code = cc) (hr : meth.sig.returnType = some .double)  (hlocks : meth.locks = false) (hQ : ∀ t, MQ below (cQ D wc post) args s 0 0 (aW wc) t → Q t) {w1 : va_W} (hp : post (some (.double v)) w1) (ha : w1.map Prod.fst = wc.map Prod.fst) (hP : va_P D CL w1 H) (hS : va_S (aW wc) s.heap H locs) (hdg : decode cc pc = .ok (.dreturn, 1)) : W p l e R s m args below meth c H locs 0 0 Q (F0 m pc ls [.double v]) :=
  W.weak hQ (W.dret (Qc := cQ D wc post) (free := aW wc) hx hb hr (fun t ht _ => ⟨⟨_, w1, rfl, hp, ha, by rw [ht]; exact hP⟩, hS.F ht⟩) hS.2.2 hdg hlocks)
theorem y_dret  {v : UInt64} (hx : p.tables.exec = Jvm.exec) (hb : c.code = cc) (hr : meth.sig.returnType = some .double)  (hlocks : meth.locks = false) (hQ : ∀ t, MQ below (rQ rpost) args s 0 0 (fun _ => False) t → Q t) (hp : rpost (some (.double v))) (hdg : decode cc pc = .ok (.dreturn, 1)) : W p l e R s m args below meth c s.heap [] 0 0 Q (F0 m pc ls [.double v]) :=
  W.weak hQ (W.dret (Qc := rQ rpost) (free := fun _ => False) hx hb hr (fun t ht _ => ⟨⟨_, rfl, hp⟩, ht⟩) (fun q h => by cases h) hdg hlocks)
theorem x_aret {ty : FieldType} {v : Nat} (hx : p.tables.exec = Jvm.exec) (hb : c.code = cc) (hr : meth.sig.returnType = some ty) (hrt : (∃ n, ty = .object n) ∨ ∃ t, ty = .array t)  (hlocks : meth.locks = false) (hQ : ∀ t, MQ below (cQ D wc post) args s 0 0 (aW wc) t → Q t) {w1 : va_W} (hp : post (some (.ref v)) w1) (ha : w1.map Prod.fst = wc.map Prod.fst) (hP : va_P D CL w1 H) (hS : va_S (aW wc) s.heap H locs) (hdg : decode cc pc = .ok (.areturn, 1)) : W p l e R s m args below meth c H locs 0 0 Q (F0 m pc ls [.ref v]) :=
  W.weak hQ (W.aret (Qc := cQ D wc post) (free := aW wc) hx hb hr hrt (Or.inr ⟨v, rfl⟩) (fun t ht _ => ⟨⟨_, w1, rfl, hp, ha, by rw [ht]; exact hP⟩, hS.F ht⟩) hS.2.2 hdg hlocks)
theorem y_aret {ty : FieldType} {v : Nat} (hx : p.tables.exec = Jvm.exec) (hb : c.code = cc) (hr : meth.sig.returnType = some ty) (hrt : (∃ n, ty = .object n) ∨ ∃ t, ty = .array t)  (hlocks : meth.locks = false) (hQ : ∀ t, MQ below (rQ rpost) args s 0 0 (fun _ => False) t → Q t) (hp : rpost (some (.ref v))) (hdg : decode cc pc = .ok (.areturn, 1)) : W p l e R s m args below meth c s.heap [] 0 0 Q (F0 m pc ls [.ref v]) :=
  W.weak hQ (W.aret (Qc := rQ rpost) (free := fun _ => False) hx hb hr hrt (Or.inr ⟨v, rfl⟩) (fun t ht _ => ⟨⟨_, rfl, hp⟩, ht⟩) (fun q h => by cases h) hdg hlocks)
theorem nar_z {v : Int} (h : v = 0 ∨ v = 1) : narrow .boolean (.int (iI v)) = .int (iI v) := by rcases h with rfl | rfl <;> rfl
theorem nar_zP (P : Prop) [Decidable P] : narrow .boolean (.int (iI (zP P))) = .int (iI (zP P)) := nar_z (by unfold zP; split <;> simp)
end XE
