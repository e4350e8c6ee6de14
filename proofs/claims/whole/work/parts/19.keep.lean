/-! calls on many cells, of which few change -/
theorem sets_app : ∀ (iP iF : List Nat) (ws w1 : va_W), iP.length ≤ w1.length → va_sets ws (iP ++ iF) w1 = va_sets (va_sets ws iP (w1.take iP.length)) iF (w1.drop iP.length)
  | [], iF, ws, w1, _ => by simp [va_sets]
  | i :: iP, iF, ws, [], h => by simp at h
  | i :: iP, iF, ws, e :: w1, h => by
    show va_sets (ws.set i e) (iP ++ iF) w1 = va_sets (va_sets (ws.set i e) iP (w1.take iP.length)) iF (w1.drop iP.length)
    exact sets_app iP iF (ws.set i e) w1 (by simpa using h)
theorem set_same {U : va_W} {i : Nat} {e : Nat × va_E} (h : U[i]? = some e) : U.set i e = U := by
  apply List.ext_getElem?
  intro j
  rw [List.getElem?_set]
  by_cases hj : i = j
  · subst hj
    rw [if_pos rfl, h]
    have : i < U.length := by
      rcases Nat.lt_or_ge i U.length with q | q
      · exact q
      · rw [List.getElem?_eq_none q] at h; cases h
    rw [if_pos this]
  · rw [if_neg hj]
theorem sets_same : ∀ (iF : List Nat) (F U : va_W), iF.map (fun i => U[i]?) = F.map some → va_sets U iF F = U
  | [], _, U, _ => by unfold va_sets; rfl
  | _ :: _, [], U, h => by simp at h
  | i :: iF, e :: F, U, h => by
    simp only [List.map_cons, List.cons.injEq] at h
    show va_sets (U.set i e) iF F = U
    rw [set_same h.1]
    exact sets_same iF F U h.2
theorem sets_other : ∀ (iP : List Nat) (P U : va_W) (k : Nat), k ∉ iP → (va_sets U iP P)[k]? = U[k]?
  | [], _, U, k, _ => by unfold va_sets; rfl
  | _ :: _, [], U, k, _ => by unfold va_sets; rfl
  | i :: iP, e :: P, U, k, h => by
    show (va_sets (U.set i e) iP P)[k]? = U[k]?
    rw [sets_other iP P (U.set i e) k (fun q => h (List.mem_cons_of_mem _ q)), List.getElem?_set, if_neg (fun q => h (by rw [q]; exact List.mem_cons_self))]
theorem nd_app : ∀ (iP iF : List Nat), va_nd (iP ++ iF) = true → ∀ k ∈ iF, k ∉ iP
  | [], _, _, k, _ => by simp
  | i :: iP, iF, h, k, hk => by
    have h1 : (decide (i ∉ iP ++ iF) && va_nd (iP ++ iF)) = true := h
    simp only [Bool.and_eq_true, decide_eq_true_eq] at h1
    intro q
    rcases List.mem_cons.mp q with r | r
    · exact h1.1 (by rw [← r]; exact List.mem_append_right _ hk)
    · exact nd_app iP iF h1.2 k hk r
theorem sets_keep {ws w1 wc : va_W} {iP iF : List Nat} (hC : (iP ++ iF).map (fun i => ws[i]?) = wc.map some) (hnd : va_nd (iP ++ iF) = true) (h1 : w1.drop iP.length = wc.drop iP.length) (h2 : iP.length ≤ w1.length) : va_sets ws (iP ++ iF) w1 = va_sets ws iP (w1.take iP.length) := by
  rw [sets_app iP iF ws w1 h2]
  apply sets_same
  rw [h1]
  have h3 : iF.map (fun i => ws[i]?) = (wc.drop iP.length).map some := by
    have := congrArg (List.drop iP.length) hC
    rw [List.map_append, ← List.map_drop] at this
    rw [← this]
    rw [List.drop_append_of_le_length (by simp)]
    simp
  rw [← h3]
  apply List.map_congr_left
  intro k hk
  exact sets_other iP _ ws k (nd_app iP iF hnd k hk)
section XF
variable {p : Program} {l : Launch} {e : Env} {R : Room} {s : State} {m : MethodId} {args : Array Value} {below : List Frame} {meth : Method} {c : Code} {H : Heap} {locs : List Loc} {cells slots : Nat} {Q : State → Prop}
variable {cc bytes : ByteArray} {pc nL maxL index n : Nat} {ls : Array Slot} {rest st0 As : List Value} {D : va_G} {A : Nat → Prop} {b : Nat} {aC : Nat → ClassId} {ws wc : va_W} {H0 : Heap} {own : String} {y : MethodName} {ret : Option FieldType} {rm : Room}
theorem x_callV0F {pw : va_W → Prop} (S : CallFix p m c cc nL s args TB own) (hM : CT l D aC y rm (.ref b :: As) wc (fun v w => v = none ∧ pw w)) (hw : VW own index y bytes maxL ret n) (hR : RM R rm maxL) (hK : va_K D CL (TY aC) s) (hN : NW s) (hP : va_P D CL ws H) (hD : va_D A ws) (hS : va_S A H0 H locs) (iP iF : List Nat) (hC : (iP ++ iF).map (fun i => ws[i]?) = wc.map some) (hnd : va_nd (iP ++ iF) = true)
    (hkeep : ∀ w, pw w → w.drop iP.length = wc.drop iP.length ∧ iP.length ≤ w.length) (q0 ci : Nat) {fs : List Value} {T : u_T} {N : Nat} (hq : wc[q0]? = some (b, .inr (ci, fs))) (hc : CL[ci]? = some (y.cls, T, N)) (hn : As.length = n) (hls : ls.size = nL) (hst : st0 = As.reverse ++ .ref b :: rest) (hrest : (rest.map fun v => v.category).sum ≤ 8) (hdg : decode cc pc = .ok (.invokevirtual index, 3)) (hcs : cells ≤ R.cells ∧ slots ≤ R.slots)
    (kk : ∀ (w1 ws1 : va_W) (H1 : Heap) (locs1 : List Loc), ws1 = va_sets ws iP (w1.take iP.length) → pw w1 → va_P D CL ws1 H1 → va_D A ws1 → va_S A H0 H1 locs1 → W p l e R s m args below meth c H1 locs1 cells slots Q (F0 m (pc + 3) ls rest)) : W p l e R s m args below meth c H locs cells slots Q (F0 m pc ls st0) :=
  x_callV0 S hM hw hR hK hN hP hD hS (iP ++ iF) hC hnd q0 ci hq hc hn hls hst hrest hdg hcs (fun w1 H1 locs1 hv h1 h2 h3 => by
    rw [sets_keep hC hnd (hkeep w1 hv).1 (hkeep w1 hv).2] at h1 h2
    exact kk w1 _ H1 locs1 rfl hv h1 h2 h3)
theorem x_callV1F {pw : va_W → Prop} {V : Value} (S : CallFix p m c cc nL s args TB own) (hM : CT l D aC y rm (.ref b :: As) wc (fun v w => v = some V ∧ pw w)) (hw : VW own index y bytes maxL ret n) (hR : RM R rm maxL) (hK : va_K D CL (TY aC) s) (hN : NW s) (hP : va_P D CL ws H) (hD : va_D A ws) (hS : va_S A H0 H locs) (iP iF : List Nat) (hC : (iP ++ iF).map (fun i => ws[i]?) = wc.map some) (hnd : va_nd (iP ++ iF) = true)
    (hkeep : ∀ w, pw w → w.drop iP.length = wc.drop iP.length ∧ iP.length ≤ w.length) (q0 ci : Nat) {fs : List Value} {T : u_T} {N : Nat} (hq : wc[q0]? = some (b, .inr (ci, fs))) (hc : CL[ci]? = some (y.cls, T, N)) (hn : As.length = n) (hls : ls.size = nL) (hst : st0 = As.reverse ++ .ref b :: rest) (hrest : (rest.map fun v => v.category).sum ≤ 8) (hdg : decode cc pc = .ok (.invokevirtual index, 3)) (hcs : cells ≤ R.cells ∧ slots ≤ R.slots)
    (kk : ∀ (w1 ws1 : va_W) (H1 : Heap) (locs1 : List Loc), ws1 = va_sets ws iP (w1.take iP.length) → pw w1 → va_P D CL ws1 H1 → va_D A ws1 → va_S A H0 H1 locs1 → W p l e R s m args below meth c H1 locs1 cells slots Q (F0 m (pc + 3) ls (V :: rest))) : W p l e R s m args below meth c H locs cells slots Q (F0 m pc ls st0) :=
  x_callV1 S hM hw hR hK hN hP hD hS (iP ++ iF) hC hnd q0 ci hq hc hn hls hst hrest hdg hcs (fun w1 H1 locs1 hv h1 h2 h3 => by
    rw [sets_keep hC hnd (hkeep w1 hv).1 (hkeep w1 hv).2] at h1 h2
    exact kk w1 _ H1 locs1 rfl hv h1 h2 h3)
theorem x_callS0F {pw : va_W → Prop} (S : CallFix p m c cc nL s args TB own) (hM : CT l D aC y rm As wc (fun v w => v = none ∧ pw w)) (hw : SW own index y bytes maxL ret n) (hR : RM R rm maxL) (hK : va_K D CL (TY aC) s) (hN : NW s) (hP : va_P D CL ws H) (hD : va_D A ws) (hS : va_S A H0 H locs) (iP iF : List Nat) (hC : (iP ++ iF).map (fun i => ws[i]?) = wc.map some) (hnd : va_nd (iP ++ iF) = true)
    (hkeep : ∀ w, pw w → w.drop iP.length = wc.drop iP.length ∧ iP.length ≤ w.length) (hn : As.length = n) (hls : ls.size = nL) (hst : st0 = As.reverse ++ rest) (hrest : (rest.map fun v => v.category).sum ≤ 8) (hdg : decode cc pc = .ok (.invokestatic index, 3)) (hcs : cells ≤ R.cells ∧ slots ≤ R.slots)
    (kk : ∀ (w1 ws1 : va_W) (H1 : Heap) (locs1 : List Loc), ws1 = va_sets ws iP (w1.take iP.length) → pw w1 → va_P D CL ws1 H1 → va_D A ws1 → va_S A H0 H1 locs1 → W p l e R s m args below meth c H1 locs1 cells slots Q (F0 m (pc + 3) ls rest)) : W p l e R s m args below meth c H locs cells slots Q (F0 m pc ls st0) :=
  x_callS0 S hM hw hR hK hN hP hD hS (iP ++ iF) hC hnd hn hls hst hrest hdg hcs (fun w1 H1 locs1 hv h1 h2 h3 => by
    rw [sets_keep hC hnd (hkeep w1 hv).1 (hkeep w1 hv).2] at h1 h2
    exact kk w1 _ H1 locs1 rfl hv h1 h2 h3)
theorem x_callS1F {pw : va_W → Prop} {V : Value} (S : CallFix p m c cc nL s args TB own) (hM : CT l D aC y rm As wc (fun v w => v = some V ∧ pw w)) (hw : SW own index y bytes maxL ret n) (hR : RM R rm maxL) (hK : va_K D CL (TY aC) s) (hN : NW s) (hP : va_P D CL ws H) (hD : va_D A ws) (hS : va_S A H0 H locs) (iP iF : List Nat) (hC : (iP ++ iF).map (fun i => ws[i]?) = wc.map some) (hnd : va_nd (iP ++ iF) = true)
    (hkeep : ∀ w, pw w → w.drop iP.length = wc.drop iP.length ∧ iP.length ≤ w.length) (hn : As.length = n) (hls : ls.size = nL) (hst : st0 = As.reverse ++ rest) (hrest : (rest.map fun v => v.category).sum ≤ 8) (hdg : decode cc pc = .ok (.invokestatic index, 3)) (hcs : cells ≤ R.cells ∧ slots ≤ R.slots)
    (kk : ∀ (w1 ws1 : va_W) (H1 : Heap) (locs1 : List Loc), ws1 = va_sets ws iP (w1.take iP.length) → pw w1 → va_P D CL ws1 H1 → va_D A ws1 → va_S A H0 H1 locs1 → W p l e R s m args below meth c H1 locs1 cells slots Q (F0 m (pc + 3) ls (V :: rest))) : W p l e R s m args below meth c H locs cells slots Q (F0 m pc ls st0) :=
  x_callS1 S hM hw hR hK hN hP hD hS (iP ++ iF) hC hnd hn hls hst hrest hdg hcs (fun w1 H1 locs1 hv h1 h2 h3 => by
    rw [sets_keep hC hnd (hkeep w1 hv).1 (hkeep w1 hv).2] at h1 h2
    exact kk w1 _ H1 locs1 rfl hv h1 h2 h3)
end XF

