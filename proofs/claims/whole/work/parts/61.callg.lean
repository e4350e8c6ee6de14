/-! a call whose answer is not known ahead -/
section XG
variable {p : Program} {l : Launch} {e : Env} {R : Room} {s : State} {m : MethodId} {args : Array Value} {below : List Frame} {meth : Method} {c : Code} {H : Heap} {locs : List Loc} {cells slots : Nat} {Q : State → Prop}
variable {cc bytes : ByteArray} {pc nL maxL index n : Nat} {ls : Array Slot} {rest st0 As : List Value} {D : va_G} {A : Nat → Prop} {b : Nat} {aC : Nat → ClassId} {ws wc : va_W} {H0 : Heap} {own : String} {y : MethodName} {ret : Option FieldType} {rm : Room} {post : Option Value → va_W → Prop}
theorem x_callVG (S : CallFix p m c cc nL s args TB own) (hM : CT l D aC y rm (.ref b :: As) wc post) (hw : VW own index y bytes maxL ret n) (hR : RM R rm maxL) (hK : va_K D CL (TY aC) s) (hN : NW s) (hP : va_P D CL ws H) (hD : va_D A ws) (hS : va_S A H0 H locs) (iP iF : List Nat) (hC : (iP ++ iF).map (fun i => ws[i]?) = wc.map some) (hnd : va_nd (iP ++ iF) = true)
    (hkeep : ∀ v w, post v w → w.drop iP.length = wc.drop iP.length ∧ iP.length ≤ w.length) (q0 ci : Nat) {fs : List Value} {T : u_T} {N : Nat} (hq : wc[q0]? = some (b, .inr (ci, fs))) (hc : CL[ci]? = some (y.cls, T, N)) (hn : As.length = n) (hls : ls.size = nL) (hst : st0 = As.reverse ++ .ref b :: rest) (hrest : (rest.map fun v => v.category).sum ≤ 8) (hdg : decode cc pc = .ok (.invokevirtual index, 3)) (hcs : cells ≤ R.cells ∧ slots ≤ R.slots)
    (kk : ∀ (v : Option Value) (w1 ws1 : va_W) (H1 : Heap) (locs1 : List Loc), ws1 = va_sets ws iP (w1.take iP.length) → post v w1 → va_P D CL ws1 H1 → va_D A ws1 → va_S A H0 H1 locs1 → W p l e R s m args below meth c H1 locs1 cells slots Q (F0 m (pc + 3) ls (v.toList ++ rest))) : W p l e R s m args below meth c H locs cells slots Q (F0 m pc ls st0) :=
  x_callV S hM hw hR hK hN hP hD hS (iP ++ iF) hC hnd q0 ci hq hc hn hls hst hrest hdg hcs (fun v w1 H1 locs1 hv h1 h2 h3 => by
    rw [sets_keep hC hnd (hkeep v w1 hv).1 (hkeep v w1 hv).2] at h1 h2
    exact kk v w1 _ H1 locs1 rfl hv h1 h2 h3)
end XG

