/-! calls: the callee's cells are places of the caller's list; behind the call the list has the callee's entries there -/
def va_sets : va_W → List Nat → va_W → va_W
  | ws, i :: is, e :: es => va_sets (ws.set i e) is es
  | ws, [], _ => ws
  | ws, _ :: _, [] => ws
theorem va_sets_get : ∀ (is : List Nat) (es ws : va_W) (k : Nat) (q : Nat × va_E), is.length = es.length → (va_sets ws is es)[k]? = some q → (∃ j : Nat, is[j]? = some k ∧ es[j]? = some q) ∨ (k ∉ is ∧ ws[k]? = some q)
  | [], [], ws, k, q, _, h => Or.inr ⟨by simp, h⟩
  | i :: is, e :: es, ws, k, q, hl, h => by
    have h1 : (va_sets (ws.set i e) is es)[k]? = some q := h
    rcases va_sets_get is es (ws.set i e) k q (by simpa using hl) h1 with ⟨j, h2, h3⟩ | ⟨h2, h3⟩
    · exact Or.inl ⟨j + 1, by simpa using h2, by simpa using h3⟩
    · by_cases hk : i = k
      · subst hk
        rw [List.getElem?_set] at h3
        simp only [if_true] at h3
        split at h3
        · exact Or.inl ⟨0, rfl, h3⟩
        · cases h3
      · rw [List.getElem?_set_ne hk] at h3
        exact Or.inr ⟨by simp; exact ⟨fun q => hk q.symm, h2⟩, h3⟩
theorem at_places {is : List Nat} {ws w : va_W} (hs : is.map (fun i => ws[i]?) = w.map some) {k : Nat} {q : Nat × va_E} (hq : w[k]? = some q) : ∃ i, is[k]? = some i ∧ ws[i]? = some q := by
  have h1 : (is.map (fun i => ws[i]?))[k]? = some (some q) := by rw [hs, List.getElem?_map, hq]; rfl
  rw [List.getElem?_map] at h1
  cases hi : is[k]? with
  | none => rw [hi] at h1; cases h1
  | some i => rw [hi] at h1; exact ⟨i, rfl, Option.some.inj h1⟩
theorem places_at {is : List Nat} {ws w : va_W} (hs : is.map (fun i => ws[i]?) = w.map some) {k i : Nat} (hi : is[k]? = some i) : ∃ q, w[k]? = some q ∧ ws[i]? = some q := by
  have h1 : (w.map some)[k]? = some (ws[i]?) := by rw [← hs, List.getElem?_map, hi]; rfl
  rw [List.getElem?_map] at h1
  cases hw : w[k]? with
  | none => rw [hw] at h1; cases h1
  | some q => rw [hw] at h1; exact ⟨q, rfl, (Option.some.inj h1).symm⟩
theorem va_back {A0 : Nat → Prop} {D : va_G} {cl : List vw_C} {ws wc w1 : va_W} {H H1 : Heap} (hP : va_P D cl ws H) (hD : va_D A0 ws) (isC : List Nat) (hC : isC.map (fun i => ws[i]?) = wc.map some) (hm : w1.map Prod.fst = wc.map Prod.fst)
    (hk : ∀ q : Nat, q < H.size → ¬ aW wc q → H1[q]? = H[q]?) (hP1 : va_P D cl w1 H1) : va_P D cl (va_sets ws isC w1) H1 ∧ va_D A0 (va_sets ws isC w1) := by
  have hl1 : isC.length = wc.length := by simpa using congrArg List.length hC
  have hl2 : w1.length = wc.length := by simpa using congrArg List.length hm
  have hl : isC.length = w1.length := by rw [hl1, hl2]
  have same : ∀ (k : Nat) (q : Nat × va_E), (va_sets ws isC w1)[k]? = some q → ∃ q', ws[k]? = some q' ∧ q'.1 = q.1 := by
    intro k q hq
    rcases va_sets_get isC w1 ws k q hl hq with ⟨j, h1, h2⟩ | ⟨-, h2⟩
    · obtain ⟨q', h3, h4⟩ := places_at hC h1
      refine ⟨q', h4, ?_⟩
      have h5 : (w1.map Prod.fst)[j]? = (wc.map Prod.fst)[j]? := by rw [hm]
      rw [List.getElem?_map, List.getElem?_map, h2, h3] at h5
      exact (Option.some.inj h5).symm
    · exact ⟨q, h2, rfl⟩
  refine ⟨fun k q hq => ?_, fun i j x y hi hj hxy => ?_, fun k q hq => ?_⟩
  · rcases va_sets_get isC w1 ws k q hl hq with ⟨j, h1, h2⟩ | ⟨h1, h2⟩
    · exact hP1 j q h2
    · refine (hP k q h2).kept (hk q.1 (hP k q h2).lt ?_)
      rintro ⟨j, e, h3⟩
      obtain ⟨i, h4, h5⟩ := at_places hC h3
      have h6 := hD.1 k i q (q.1, e) h2 h5 rfl
      subst h6
      exact h1 (List.mem_of_getElem? h4)
  · obtain ⟨x', h1, h2⟩ := same i x hi
    obtain ⟨y', h3, h4⟩ := same j y hj
    exact hD.1 i j x' y' h1 h3 (by rw [h2, h4, hxy])
  · obtain ⟨q', h1, h2⟩ := same k q hq
    rw [← h2]
    exact hD.2 k q' h1
theorem aW_in {A0 : Nat → Prop} {ws wc : va_W} (hD : va_D A0 ws) {isC : List Nat} (hC : isC.map (fun i => ws[i]?) = wc.map some) : ∀ q, aW wc q → A0 q := by
  rintro q ⟨k, e, h⟩
  obtain ⟨i, -, h2⟩ := at_places hC h
  exact hD.2 i (q, e) h2
theorem va_D_at {A0 : Nat → Prop} {ws wc : va_W} (hD : va_D A0 ws) {isC : List Nat} (hC : isC.map (fun i => ws[i]?) = wc.map some) (hn : va_nd isC = true) : va_D (fun _ => True) wc := (hD.sub isC hn hC).weaken (fun _ _ _ _ => trivial)
theorem va_P_at {D : va_G} {cl : List vw_C} {ws wc : va_W} {H : Heap} (hP : va_P D cl ws H) {isC : List Nat} (hC : isC.map (fun i => ws[i]?) = wc.map some) : va_P D cl wc H := fun k q hk => by
  obtain ⟨i, -, h2⟩ := at_places hC hk
  exact hP i q h2
/-- what a call site has of the tables: a method of an object's own class; a static one -/
def VW (own : String) (index : Nat) (y : MethodName) (bytes : ByteArray) (maxL : Nat) (ret : Option FieldType) (n : Nat) : Prop :=
  Cond.code y bytes maxL ret ∈ TB ∧ Cond.initialized y.cls ∈ TB ∧ (y.cls ≠ "java/lang/invoke/MethodHandle" ∧ y.cls ≠ "java/lang/invoke/VarHandle") ∧ (parseMethodDescriptor y.desc).map (fun d => d.parameters.length) = some n ∧ Cond.methodLink own index y ∈ TB ∧ Cond.instanceMethod y ∈ TB ∧ Cond.selects y.cls y y ∈ TB
def SW (own : String) (index : Nat) (y : MethodName) (bytes : ByteArray) (maxL : Nat) (ret : Option FieldType) (n : Nat) : Prop :=
  Cond.code y bytes maxL ret ∈ TB ∧ Cond.initialized y.cls ∈ TB ∧ (y.cls ≠ "java/lang/invoke/MethodHandle" ∧ y.cls ≠ "java/lang/invoke/VarHandle") ∧ (parseMethodDescriptor y.desc).map (fun d => d.parameters.length) = some n ∧ Cond.methodLink own index y ∈ TB ∧ Cond.static y ∈ TB
/-- the room that a call leaves -/
def RM (R rm : Room) (maxL : Nat) : Prop := rm.cells = 0 ∧ rm.slots = 0 ∧ rm.frames + 1 ≤ R.frames ∧ 8 + (maxL + 11) + rm.locals ≤ R.locals
section XC
variable {p : Program} {l : Launch} {e : Env} {R : Room} {s : State} {m : MethodId} {args : Array Value} {below : List Frame} {meth : Method} {c : Code} {H : Heap} {locs : List Loc} {cells slots : Nat} {Q : State → Prop}
variable {cc bytes : ByteArray} {pc nL maxL index n : Nat} {ls : Array Slot} {rest st0 As : List Value} {D : va_G} {A : Nat → Prop} {b : Nat} {aC : Nat → ClassId} {ws wc : va_W} {H0 : Heap} {own : String} {y : MethodName} {ret : Option FieldType} {rm : Room} {post : Option Value → va_W → Prop} {rpost : Option Value → Prop}
theorem callB_tb (ht : ∀ w ∈ TB, w.before args s = true) (hR : RM R rm maxL) (h1 : Cond.code y bytes maxL ret ∈ TB) (h2 : Cond.initialized y.cls ∈ TB) (h3 : y.cls ≠ "java/lang/invoke/MethodHandle" ∧ y.cls ≠ "java/lang/invoke/VarHandle") (h4 : (parseMethodDescriptor y.desc).map (fun d => d.parameters.length) = some n) (h5 : Cond.methodLink own index y ∈ TB) : CallB R s args own index y bytes maxL ret TB rm 0 0 n := by
  refine ⟨hR.1, hR.2.1, hR.2.2.1, hR.2.2.2, pay_in ht TB_good, h1, ht _ h1, ht _ h2, h3, fun sig h => ?_, ht _ h5⟩
  rw [h] at h4
  exact (Option.some.inj h4).symm
theorem cQ_back {av : Array Value} (hr : va_Run p l e R s m args below meth c H locs cells slots 0 0 (F0 m pc ls st0) rest (cQ D wc post av) (aW wc)) (hP : va_P D CL ws H) (hD : va_D A ws) (hS : va_S A H0 H locs) (isC : List Nat) (hC : isC.map (fun i => ws[i]?) = wc.map some)
    (kk : ∀ (v : Option Value) (w1 : va_W) (H1 : Heap) (locs1 : List Loc), post v w1 → va_P D CL (va_sets ws isC w1) H1 → va_D A (va_sets ws isC w1) → va_S A H0 H1 locs1 → W p l e R s m args below meth c H1 locs1 cells slots Q (F0 m (pc + 3) ls (v.toList ++ rest))) : W p l e R s m args below meth c H locs cells slots Q (F0 m pc ls st0) := by
  intro T hT X
  obtain ⟨v, st₀, t, T', L, h0, X', hL, e1, e2, ⟨⟨v', w1, hv, hp, hm, hP1⟩, hz, hk⟩, st⟩ := hr T hT X
  cases hv
  rw [h0] at hz hk
  have hin := aW_in hD hC
  obtain ⟨hPn, hDn⟩ := va_back hP hD isC hC hm hk hP1
  obtain ⟨t2, a1, b1⟩ := kk v w1 T'.heap (locs ++ L) hp (by rw [e1]; exact hPn) hDn
    ⟨Nat.le_trans hS.1 (by rw [e1]; exact hz), fun q h1 h2 => by rw [e1, hk q (Nat.lt_of_lt_of_le h1 hS.1) (fun z => h2 (hin q z))]; exact hS.2.1 q h1 h2, fun q hq => by
      rcases List.mem_append.mp hq with h | h
      · exact hS.2.2 q h
      · exact hin _ (hL q h)⟩ T' rfl X'
  exact ⟨t2, st t2 a1, b1⟩
theorem rQ_back {av : Array Value} (hr : va_Run p l e R s m args below meth c H locs cells slots 0 0 (F0 m pc ls st0) rest (rQ rpost av) (fun _ => False))
    (kk : ∀ (v : Option Value), rpost v → W p l e R s m args below meth c H locs cells slots Q (F0 m (pc + 3) ls (v.toList ++ rest))) : W p l e R s m args below meth c H locs cells slots Q (F0 m pc ls st0) := by
  intro T hT X
  obtain ⟨v, st₀, t, T', L, h0, X', hL, e1, e2, ⟨⟨v', hv, hp⟩, hh⟩, st⟩ := hr T hT X
  cases hv
  obtain ⟨t2, a1, b1⟩ := kk v hp T' (by rw [e1, hh, h0]) (Stand.forget X' (fun q h => (hL q h).elim))
  exact ⟨t2, st t2 a1, b1⟩
/-- a call on an object, that may change the callee's cells -/
theorem x_callV (S : CallFix p m c cc nL s args TB own) (hM : CT l D aC y rm (.ref b :: As) wc post) (hw : VW own index y bytes maxL ret n) (hR : RM R rm maxL) (hK : va_K D CL (TY aC) s) (hN : NW s) (hP : va_P D CL ws H) (hD : va_D A ws) (hS : va_S A H0 H locs) (isC : List Nat) (hC : isC.map (fun i => ws[i]?) = wc.map some) (hnd : va_nd isC = true)
    (q0 ci : Nat) {fs : List Value} {T : u_T} {N : Nat} (hq : wc[q0]? = some (b, .inr (ci, fs))) (hc : CL[ci]? = some (y.cls, T, N)) (hn : As.length = n) (hls : ls.size = nL) (hst : st0 = As.reverse ++ .ref b :: rest) (hrest : (rest.map fun v => v.category).sum ≤ 8) (hdg : decode cc pc = .ok (.invokevirtual index, 3)) (hcs : cells ≤ R.cells ∧ slots ≤ R.slots)
    (kk : ∀ (v : Option Value) (w1 : va_W) (H1 : Heap) (locs1 : List Loc), post v w1 → va_P D CL (va_sets ws isC w1) H1 → va_D A (va_sets ws isC w1) → va_S A H0 H1 locs1 → W p l e R s m args below meth c H1 locs1 cells slots Q (F0 m (pc + 3) ls (v.toList ++ rest))) : W p l e R s m args below meth c H locs cells slots Q (F0 m pc ls st0) := by
  obtain ⟨h1, h2, h3, h4, h5, h6, h7⟩ := hw
  have hPc := va_P_at hP hC
  have hDc := va_D_at hD hC hnd
  exact cQ_back (va_runV (C := y.cls) S hM ⟨callB_tb S.2.2.2.2 hR h1 h2 h3 h4 h5, S.2.2.2.2 _ h6, S.2.2.2.2 _ h7⟩ ⟨cP_blind, va_recv hK hPc hc hq, fun U hU hW => ⟨rfl, by rw [hU]; exact hPc, va_K.moved hW.alike hK, hN.warm hW, hDc⟩⟩ rfl hn hls hst (lv_room hrest) hdg hcs) hP hD hS isC hC kk
theorem x_callS (S : CallFix p m c cc nL s args TB own) (hM : CT l D aC y rm As wc post) (hw : SW own index y bytes maxL ret n) (hR : RM R rm maxL) (hK : va_K D CL (TY aC) s) (hN : NW s) (hP : va_P D CL ws H) (hD : va_D A ws) (hS : va_S A H0 H locs) (isC : List Nat) (hC : isC.map (fun i => ws[i]?) = wc.map some) (hnd : va_nd isC = true)
    (hn : As.length = n) (hls : ls.size = nL) (hst : st0 = As.reverse ++ rest) (hrest : (rest.map fun v => v.category).sum ≤ 8) (hdg : decode cc pc = .ok (.invokestatic index, 3)) (hcs : cells ≤ R.cells ∧ slots ≤ R.slots)
    (kk : ∀ (v : Option Value) (w1 : va_W) (H1 : Heap) (locs1 : List Loc), post v w1 → va_P D CL (va_sets ws isC w1) H1 → va_D A (va_sets ws isC w1) → va_S A H0 H1 locs1 → W p l e R s m args below meth c H1 locs1 cells slots Q (F0 m (pc + 3) ls (v.toList ++ rest))) : W p l e R s m args below meth c H locs cells slots Q (F0 m pc ls st0) := by
  obtain ⟨h1, h2, h3, h4, h5, h6⟩ := hw
  have hPc := va_P_at hP hC
  have hDc := va_D_at hD hC hnd
  exact cQ_back (va_runS S hM ⟨callB_tb S.2.2.2.2 hR h1 h2 h3 h4 h5, S.2.2.2.2 _ h6⟩ ⟨cP_blind, fun U hU hW => ⟨rfl, by rw [hU]; exact hPc, va_K.moved hW.alike hK, hN.warm hW, hDc⟩⟩ rfl hn hls hst (lv_room hrest) hdg hcs) hP hD hS isC hC kk
/-- calls that change nothing -/
theorem y_callV (S : CallFix p m c cc nL s args TB own) (hM : CR l D aC y rm (.ref b :: As) wc rpost) (hw : VW own index y bytes maxL ret n) (hR : RM R rm maxL) (hK : va_K D CL (TY aC) s) (hN : NW s) (hP : va_P D CL ws H) (isC : List Nat) (hC : isC.map (fun i => ws[i]?) = wc.map some)
    (q0 ci : Nat) {fs : List Value} {T : u_T} {N : Nat} (hq : wc[q0]? = some (b, .inr (ci, fs))) (hc : CL[ci]? = some (y.cls, T, N)) (hn : As.length = n) (hls : ls.size = nL) (hst : st0 = As.reverse ++ .ref b :: rest) (hrest : (rest.map fun v => v.category).sum ≤ 8) (hdg : decode cc pc = .ok (.invokevirtual index, 3)) (hcs : cells ≤ R.cells ∧ slots ≤ R.slots)
    (kk : ∀ (v : Option Value), rpost v → W p l e R s m args below meth c H locs cells slots Q (F0 m (pc + 3) ls (v.toList ++ rest))) : W p l e R s m args below meth c H locs cells slots Q (F0 m pc ls st0) := by
  obtain ⟨h1, h2, h3, h4, h5, h6, h7⟩ := hw
  have hPc := va_P_at hP hC
  exact rQ_back (va_runV (C := y.cls) S hM ⟨callB_tb S.2.2.2.2 hR h1 h2 h3 h4 h5, S.2.2.2.2 _ h6, S.2.2.2.2 _ h7⟩ ⟨rP_blind, va_recv hK hPc hc hq, fun U hU hW => ⟨rfl, by rw [hU]; exact hPc, va_K.moved hW.alike hK, hN.warm hW⟩⟩ rfl hn hls hst (lv_room hrest) hdg hcs) kk
theorem y_callS (S : CallFix p m c cc nL s args TB own) (hM : CR l D aC y rm As wc rpost) (hw : SW own index y bytes maxL ret n) (hR : RM R rm maxL) (hK : va_K D CL (TY aC) s) (hN : NW s) (hP : va_P D CL ws H) (isC : List Nat) (hC : isC.map (fun i => ws[i]?) = wc.map some)
    (hn : As.length = n) (hls : ls.size = nL) (hst : st0 = As.reverse ++ rest) (hrest : (rest.map fun v => v.category).sum ≤ 8) (hdg : decode cc pc = .ok (.invokestatic index, 3)) (hcs : cells ≤ R.cells ∧ slots ≤ R.slots)
    (kk : ∀ (v : Option Value), rpost v → W p l e R s m args below meth c H locs cells slots Q (F0 m (pc + 3) ls (v.toList ++ rest))) : W p l e R s m args below meth c H locs cells slots Q (F0 m pc ls st0) := by
  obtain ⟨h1, h2, h3, h4, h5, h6⟩ := hw
  have hPc := va_P_at hP hC
  exact rQ_back (va_runS S hM ⟨callB_tb S.2.2.2.2 hR h1 h2 h3 h4 h5, S.2.2.2.2 _ h6⟩ ⟨rP_blind, fun U hU hW => ⟨rfl, by rw [hU]; exact hPc, va_K.moved hW.alike hK, hN.warm hW⟩⟩ rfl hn hls hst (lv_room hrest) hdg hcs) kk
/-- the same with the answer known -/
theorem y_callV1 {V : Value} (S : CallFix p m c cc nL s args TB own) (hM : CR l D aC y rm (.ref b :: As) wc (fun v => v = some V)) (hw : VW own index y bytes maxL ret n) (hR : RM R rm maxL) (hK : va_K D CL (TY aC) s) (hN : NW s) (hP : va_P D CL ws H) (isC : List Nat) (hC : isC.map (fun i => ws[i]?) = wc.map some)
    (q0 ci : Nat) {fs : List Value} {T : u_T} {N : Nat} (hq : wc[q0]? = some (b, .inr (ci, fs))) (hc : CL[ci]? = some (y.cls, T, N)) (hn : As.length = n) (hls : ls.size = nL) (hst : st0 = As.reverse ++ .ref b :: rest) (hrest : (rest.map fun v => v.category).sum ≤ 8) (hdg : decode cc pc = .ok (.invokevirtual index, 3)) (hcs : cells ≤ R.cells ∧ slots ≤ R.slots)
    (kk : W p l e R s m args below meth c H locs cells slots Q (F0 m (pc + 3) ls (V :: rest))) : W p l e R s m args below meth c H locs cells slots Q (F0 m pc ls st0) :=
  y_callV S hM hw hR hK hN hP isC hC q0 ci hq hc hn hls hst hrest hdg hcs (fun v hv => by subst hv; exact kk)
theorem y_callS1 {V : Value} (S : CallFix p m c cc nL s args TB own) (hM : CR l D aC y rm As wc (fun v => v = some V)) (hw : SW own index y bytes maxL ret n) (hR : RM R rm maxL) (hK : va_K D CL (TY aC) s) (hN : NW s) (hP : va_P D CL ws H) (isC : List Nat) (hC : isC.map (fun i => ws[i]?) = wc.map some)
    (hn : As.length = n) (hls : ls.size = nL) (hst : st0 = As.reverse ++ rest) (hrest : (rest.map fun v => v.category).sum ≤ 8) (hdg : decode cc pc = .ok (.invokestatic index, 3)) (hcs : cells ≤ R.cells ∧ slots ≤ R.slots)
    (kk : W p l e R s m args below meth c H locs cells slots Q (F0 m (pc + 3) ls (V :: rest))) : W p l e R s m args below meth c H locs cells slots Q (F0 m pc ls st0) :=
  y_callS S hM hw hR hK hN hP isC hC hn hls hst hrest hdg hcs (fun v hv => by subst hv; exact kk)
theorem x_callV0 {pw : va_W → Prop} (S : CallFix p m c cc nL s args TB own) (hM : CT l D aC y rm (.ref b :: As) wc (fun v w => v = none ∧ pw w)) (hw : VW own index y bytes maxL ret n) (hR : RM R rm maxL) (hK : va_K D CL (TY aC) s) (hN : NW s) (hP : va_P D CL ws H) (hD : va_D A ws) (hS : va_S A H0 H locs) (isC : List Nat) (hC : isC.map (fun i => ws[i]?) = wc.map some) (hnd : va_nd isC = true)
    (q0 ci : Nat) {fs : List Value} {T : u_T} {N : Nat} (hq : wc[q0]? = some (b, .inr (ci, fs))) (hc : CL[ci]? = some (y.cls, T, N)) (hn : As.length = n) (hls : ls.size = nL) (hst : st0 = As.reverse ++ .ref b :: rest) (hrest : (rest.map fun v => v.category).sum ≤ 8) (hdg : decode cc pc = .ok (.invokevirtual index, 3)) (hcs : cells ≤ R.cells ∧ slots ≤ R.slots)
    (kk : ∀ (w1 : va_W) (H1 : Heap) (locs1 : List Loc), pw w1 → va_P D CL (va_sets ws isC w1) H1 → va_D A (va_sets ws isC w1) → va_S A H0 H1 locs1 → W p l e R s m args below meth c H1 locs1 cells slots Q (F0 m (pc + 3) ls rest)) : W p l e R s m args below meth c H locs cells slots Q (F0 m pc ls st0) :=
  x_callV S hM hw hR hK hN hP hD hS isC hC hnd q0 ci hq hc hn hls hst hrest hdg hcs (fun v w1 H1 locs1 hv h1 h2 h3 => by obtain ⟨rfl, hv⟩ := hv; exact kk w1 H1 locs1 hv h1 h2 h3)
theorem x_callV1 {pw : va_W → Prop} {V : Value} (S : CallFix p m c cc nL s args TB own) (hM : CT l D aC y rm (.ref b :: As) wc (fun v w => v = some V ∧ pw w)) (hw : VW own index y bytes maxL ret n) (hR : RM R rm maxL) (hK : va_K D CL (TY aC) s) (hN : NW s) (hP : va_P D CL ws H) (hD : va_D A ws) (hS : va_S A H0 H locs) (isC : List Nat) (hC : isC.map (fun i => ws[i]?) = wc.map some) (hnd : va_nd isC = true)
    (q0 ci : Nat) {fs : List Value} {T : u_T} {N : Nat} (hq : wc[q0]? = some (b, .inr (ci, fs))) (hc : CL[ci]? = some (y.cls, T, N)) (hn : As.length = n) (hls : ls.size = nL) (hst : st0 = As.reverse ++ .ref b :: rest) (hrest : (rest.map fun v => v.category).sum ≤ 8) (hdg : decode cc pc = .ok (.invokevirtual index, 3)) (hcs : cells ≤ R.cells ∧ slots ≤ R.slots)
    (kk : ∀ (w1 : va_W) (H1 : Heap) (locs1 : List Loc), pw w1 → va_P D CL (va_sets ws isC w1) H1 → va_D A (va_sets ws isC w1) → va_S A H0 H1 locs1 → W p l e R s m args below meth c H1 locs1 cells slots Q (F0 m (pc + 3) ls (V :: rest))) : W p l e R s m args below meth c H locs cells slots Q (F0 m pc ls st0) :=
  x_callV S hM hw hR hK hN hP hD hS isC hC hnd q0 ci hq hc hn hls hst hrest hdg hcs (fun v w1 H1 locs1 hv h1 h2 h3 => by obtain ⟨rfl, hv⟩ := hv; exact kk w1 H1 locs1 hv h1 h2 h3)
theorem x_callS0 {pw : va_W → Prop} (S : CallFix p m c cc nL s args TB own) (hM : CT l D aC y rm As wc (fun v w => v = none ∧ pw w)) (hw : SW own index y bytes maxL ret n) (hR : RM R rm maxL) (hK : va_K D CL (TY aC) s) (hN : NW s) (hP : va_P D CL ws H) (hD : va_D A ws) (hS : va_S A H0 H locs) (isC : List Nat) (hC : isC.map (fun i => ws[i]?) = wc.map some) (hnd : va_nd isC = true)
    (hn : As.length = n) (hls : ls.size = nL) (hst : st0 = As.reverse ++ rest) (hrest : (rest.map fun v => v.category).sum ≤ 8) (hdg : decode cc pc = .ok (.invokestatic index, 3)) (hcs : cells ≤ R.cells ∧ slots ≤ R.slots)
    (kk : ∀ (w1 : va_W) (H1 : Heap) (locs1 : List Loc), pw w1 → va_P D CL (va_sets ws isC w1) H1 → va_D A (va_sets ws isC w1) → va_S A H0 H1 locs1 → W p l e R s m args below meth c H1 locs1 cells slots Q (F0 m (pc + 3) ls rest)) : W p l e R s m args below meth c H locs cells slots Q (F0 m pc ls st0) :=
  x_callS S hM hw hR hK hN hP hD hS isC hC hnd hn hls hst hrest hdg hcs (fun v w1 H1 locs1 hv h1 h2 h3 => by obtain ⟨rfl, hv⟩ := hv; exact kk w1 H1 locs1 hv h1 h2 h3)
theorem x_callS1 {pw : va_W → Prop} {V : Value} (S : CallFix p m c cc nL s args TB own) (hM : CT l D aC y rm As wc (fun v w => v = some V ∧ pw w)) (hw : SW own index y bytes maxL ret n) (hR : RM R rm maxL) (hK : va_K D CL (TY aC) s) (hN : NW s) (hP : va_P D CL ws H) (hD : va_D A ws) (hS : va_S A H0 H locs) (isC : List Nat) (hC : isC.map (fun i => ws[i]?) = wc.map some) (hnd : va_nd isC = true)
    (hn : As.length = n) (hls : ls.size = nL) (hst : st0 = As.reverse ++ rest) (hrest : (rest.map fun v => v.category).sum ≤ 8) (hdg : decode cc pc = .ok (.invokestatic index, 3)) (hcs : cells ≤ R.cells ∧ slots ≤ R.slots)
    (kk : ∀ (w1 : va_W) (H1 : Heap) (locs1 : List Loc), pw w1 → va_P D CL (va_sets ws isC w1) H1 → va_D A (va_sets ws isC w1) → va_S A H0 H1 locs1 → W p l e R s m args below meth c H1 locs1 cells slots Q (F0 m (pc + 3) ls (V :: rest))) : W p l e R s m args below meth c H locs cells slots Q (F0 m pc ls st0) :=
  x_callS S hM hw hR hK hN hP hD hS isC hC hnd hn hls hst hrest hdg hcs (fun v w1 H1 locs1 hv h1 h2 h3 => by obtain ⟨rfl, hv⟩ := hv; exact kk w1 H1 locs1 hv h1 h2 h3)
end XC
