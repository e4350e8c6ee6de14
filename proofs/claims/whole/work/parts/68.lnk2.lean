theorem inC_su {p q : Int → Int} {i j : Int} : ∀ n : Nat, inC p q i j n = true ↔ 0 < su (fun k => if p k = i ∧ q k = j then 1 else 0) n
  | 0 => by
    show false = true ↔ (0 : Int) < 0
    simp
  | n + 1 => by
    have ih := inC_su (p := p) (q := q) (i := i) (j := j) n
    have nn := su_nn (F := fun k => if p k = i ∧ q k = j then 1 else 0) n (fun k _ _ => by show (0 : Int) ≤ if _ then _ else _; split <;> decide)
    show (inC p q i j n || (decide (p n = i) && decide (q n = j))) = true ↔ 0 < su (fun k => if p k = i ∧ q k = j then 1 else 0) n + (if p n = i ∧ q n = j then 1 else 0)
    rw [Bool.or_eq_true, Bool.and_eq_true, decide_eq_true_iff, decide_eq_true_iff, ih]
    by_cases c : p n = i ∧ q n = j
    · rw [if_pos c]; exact ⟨fun _ => by omega, fun _ => Or.inr c⟩
    · rw [if_neg c]; exact ⟨fun z => z.elim (fun y => by omega) (fun y => absurd y c), fun z => Or.inl (by omega)⟩
theorem LM.has {R n : Nat} {p q v i_ k_ : Int → Int} {i j : Int} (h : LM R n p q v i_ k_) (hi : 0 ≤ i ∧ i < (R : Int)) (hj : 0 ≤ j ∧ j < 16) : inC p q i j n = true ↔ i_ (16 * i + j) ≠ 0 := by
  have e := h (fun x y _ => if x = i ∧ y = j then 1 else 0)
  rw [gI_at hi hj] at e
  rw [inC_su, e]
  by_cases c : i_ (16 * i + j) ≠ 0
  · rw [if_pos c]; exact ⟨fun _ => c, fun _ => by decide⟩
  · rw [if_neg c]; exact ⟨fun z => absurd z (by decide), fun z => absurd z c⟩
theorem PMt.has {n : Nat} {p q v i_ k_ : Int → Int} {i j : Int} (h : PMt n p q v i_ k_) (hi : 0 ≤ i ∧ i < 16) (hj : 0 ≤ j ∧ j < 16) : (inC p q i j n = true ∨ inC p q j i n = true) ↔ i_ (16 * i + j) ≠ 0 := by
  have e := h (fun x y _ => if x = i ∧ y = j then 1 else 0)
  rw [gI_at (R := 16) hi hj] at e
  have e2 : 0 < su (fun k => if p k = q k then (if p k = i ∧ q k = j then (1 : Int) else 0) else (if p k = i ∧ q k = j then 1 else 0) + (if q k = i ∧ p k = j then 1 else 0)) n ↔ (inC p q i j n = true ∨ inC p q j i n = true) := by
    rw [inC_su, inC_su]
    clear e h
    induction n with
    | zero => show (0 : Int) < 0 ↔ ((0 : Int) < 0 ∨ (0 : Int) < 0); omega
    | succ n ih =>
      show 0 < su (fun k => if p k = q k then (if p k = i ∧ q k = j then (1 : Int) else 0) else (if p k = i ∧ q k = j then 1 else 0) + (if q k = i ∧ p k = j then 1 else 0)) n + (if p n = q n then (if p n = i ∧ q n = j then (1 : Int) else 0) else (if p n = i ∧ q n = j then 1 else 0) + (if q n = i ∧ p n = j then 1 else 0)) ↔ (0 < su (fun k => if p k = i ∧ q k = j then 1 else 0) n + (if p n = i ∧ q n = j then 1 else 0) ∨ 0 < su (fun k => if p k = j ∧ q k = i then 1 else 0) n + (if p n = j ∧ q n = i then 1 else 0))
      have n1 := su_nn (F := fun k => if p k = i ∧ q k = j then 1 else 0) n (fun k _ _ => by show (0 : Int) ≤ if _ then _ else _; split <;> decide)
      have n2 := su_nn (F := fun k => if p k = j ∧ q k = i then 1 else 0) n (fun k _ _ => by show (0 : Int) ≤ if _ then _ else _; split <;> decide)
      have n3 := su_nn (F := fun k => if p k = q k then (if p k = i ∧ q k = j then (1 : Int) else 0) else (if p k = i ∧ q k = j then 1 else 0) + (if q k = i ∧ p k = j then 1 else 0)) n (fun k _ _ => by
        show (0 : Int) ≤ if _ then _ else _
        split
        · split <;> decide
        · split <;> split <;> decide)
      generalize su (fun k => if p k = q k then (if p k = i ∧ q k = j then (1 : Int) else 0) else (if p k = i ∧ q k = j then 1 else 0) + (if q k = i ∧ p k = j then 1 else 0)) n = A at *
      generalize su (fun k => if p k = i ∧ q k = j then (1 : Int) else 0) n = B at *
      generalize su (fun k => if p k = j ∧ q k = i then (1 : Int) else 0) n = C at *
      by_cases c1 : p n = i ∧ q n = j
      · rw [if_pos c1]
        by_cases c2 : p n = q n
        · rw [if_pos c2]; omega
        · rw [if_neg c2]; split <;> omega
      · rw [if_neg c1]
        by_cases c2 : p n = j ∧ q n = i
        · rw [if_pos c2, if_pos (show q n = i ∧ p n = j from ⟨c2.2, c2.1⟩)]
          by_cases c3 : p n = q n
          · exact absurd (show p n = i ∧ q n = j by omega) c1
          · rw [if_neg c3]; omega
        · rw [if_neg c2, if_neg (show ¬ (q n = i ∧ p n = j) from fun z => c2 ⟨z.2, z.1⟩)]
          split <;> omega
  rw [← e2, e]
  by_cases c : i_ (16 * i + j) ≠ 0
  · rw [if_pos c]; exact ⟨fun _ => c, fun _ => by decide⟩
  · rw [if_neg c]; exact ⟨fun z => absurd z (by decide), fun z => absurd z c⟩

/-- class and reference hold the same -/
def Rel (d : DS) (M : MS) : Prop := (d.rc = M.rw ∧ d.cc = M.cn ∧ d.ec = M.en ∧ d.pc = M.pr) ∧ (EqN (d.om 0) (d.oe 0) (-M.ko) (-3)) ∧ (EqN (d.nm 0) (d.ne 0) 1 0) ∧ (∀ j : Int, 0 ≤ j → j < M.cn → EqN (d.cm j) (d.ce j) (M.kc j) (-3)) ∧ (∀ i : Int, 0 ≤ i → i < M.rw → (d.rl i % 2 = M.rli i ∧ d.rl i / 2 % 2 = M.rhi i) ∧ (M.rli i ≠ 0 → EqN (d.rlm i) (d.rle i) (M.krl i) (-3)) ∧ (M.rhi i ≠ 0 → EqN (d.rhm i) (d.rhe i) (M.krh i) (-3))) ∧ (∀ i : Int, 0 ≤ i → i < 12 → EqN (d.rvm i) (d.rve i) (M.ky i) (M.yb i)) ∧ (∀ j : Int, 0 ≤ j → j < M.cn → (d.cl j % 2 = M.li j ∧ d.cl j / 2 % 2 = M.hi j) ∧ (M.li j ≠ 0 → EqN (d.clm j) (d.cle j) (M.kl j) (-3)) ∧ (M.hi j ≠ 0 → EqN (d.chm j) (d.che j) (M.kh j) (-3))) ∧ (∀ j : Int, 0 ≤ j → j < 16 → EqN (d.cvm j) (d.cve j) (M.kx j) (M.xb j)) ∧ (∃ v : Int → Int, (∀ k : Int, 0 ≤ k → k < M.en → EqN (d.em k) (d.ee k) (v k) (-3)) ∧ LM 12 M.en.toNat d.e1 d.e2 v M.ai M.ka) ∧ (∀ i j : Int, 0 ≤ i → i < 12 → 0 ≤ j → j < 16 → M.ai (16 * i + j) ≠ 0 → i < M.rw ∧ j < M.cn) ∧ (∃ v : Int → Int, (∀ k : Int, 0 ≤ k → k < M.pr → EqN (d.pm k) (d.pe k) (v k) (-3)) ∧ PMt M.pr.toNat d.p1 d.p2 v M.qi M.kq) ∧ (∀ i j : Int, 0 ≤ i → i < 16 → 0 ≤ j → j < 16 → M.qi (16 * i + j) ≠ 0 → i < M.cn ∧ j < M.cn)
theorem Rel.n {d : DS} {M : MS} (h : Rel d M) : d.rc = M.rw ∧ d.cc = M.cn ∧ d.ec = M.en ∧ d.pc = M.pr := h.1
theorem Rel.o {d : DS} {M : MS} (h : Rel d M) : EqN (d.om 0) (d.oe 0) (-M.ko) (-3) := h.2.1
theorem Rel.one {d : DS} {M : MS} (h : Rel d M) : EqN (d.nm 0) (d.ne 0) 1 0 := h.2.2.1
theorem Rel.c {d : DS} {M : MS} (h : Rel d M) : ∀ j : Int, 0 ≤ j → j < M.cn → EqN (d.cm j) (d.ce j) (M.kc j) (-3) := h.2.2.2.1
theorem Rel.r {d : DS} {M : MS} (h : Rel d M) : ∀ i : Int, 0 ≤ i → i < M.rw → (d.rl i % 2 = M.rli i ∧ d.rl i / 2 % 2 = M.rhi i) ∧ (M.rli i ≠ 0 → EqN (d.rlm i) (d.rle i) (M.krl i) (-3)) ∧ (M.rhi i ≠ 0 → EqN (d.rhm i) (d.rhe i) (M.krh i) (-3)) := h.2.2.2.2.1
theorem Rel.y {d : DS} {M : MS} (h : Rel d M) : ∀ i : Int, 0 ≤ i → i < 12 → EqN (d.rvm i) (d.rve i) (M.ky i) (M.yb i) := h.2.2.2.2.2.1
theorem Rel.l {d : DS} {M : MS} (h : Rel d M) : ∀ j : Int, 0 ≤ j → j < M.cn → (d.cl j % 2 = M.li j ∧ d.cl j / 2 % 2 = M.hi j) ∧ (M.li j ≠ 0 → EqN (d.clm j) (d.cle j) (M.kl j) (-3)) ∧ (M.hi j ≠ 0 → EqN (d.chm j) (d.che j) (M.kh j) (-3)) := h.2.2.2.2.2.2.1
theorem Rel.x {d : DS} {M : MS} (h : Rel d M) : ∀ j : Int, 0 ≤ j → j < 16 → EqN (d.cvm j) (d.cve j) (M.kx j) (M.xb j) := h.2.2.2.2.2.2.2.1
theorem Rel.e {d : DS} {M : MS} (h : Rel d M) : ∃ v : Int → Int, (∀ k : Int, 0 ≤ k → k < M.en → EqN (d.em k) (d.ee k) (v k) (-3)) ∧ LM 12 M.en.toNat d.e1 d.e2 v M.ai M.ka := h.2.2.2.2.2.2.2.2.1
theorem Rel.eb {d : DS} {M : MS} (h : Rel d M) : ∀ i j : Int, 0 ≤ i → i < 12 → 0 ≤ j → j < 16 → M.ai (16 * i + j) ≠ 0 → i < M.rw ∧ j < M.cn := h.2.2.2.2.2.2.2.2.2.1
theorem Rel.p {d : DS} {M : MS} (h : Rel d M) : ∃ v : Int → Int, (∀ k : Int, 0 ≤ k → k < M.pr → EqN (d.pm k) (d.pe k) (v k) (-3)) ∧ PMt M.pr.toNat d.p1 d.p2 v M.qi M.kq := h.2.2.2.2.2.2.2.2.2.2.1
theorem Rel.pb {d : DS} {M : MS} (h : Rel d M) : ∀ i j : Int, 0 ≤ i → i < 16 → 0 ≤ j → j < 16 → M.qi (16 * i + j) ≠ 0 → i < M.cn ∧ j < M.cn := h.2.2.2.2.2.2.2.2.2.2.2
theorem L_act {d : DS} {M : MS} (hd : DI d) (hM : MI M) (h : Rel d M) {s i : Int} (hi : 0 ≤ i ∧ i < 12) : su (sA d s i) d.ec.toNat * W18 = (1 - 2 * s) * su (mA M i) M.cn.toNat := by
  obtain ⟨v, hv, hL⟩ := h.e
  have hcn := hM.cn
  have hen := hM.en
  have e1 := hL (fun a b k => if a = i then U3 s k (-3) (M.kx b) (M.xb b) 1 0 0 else 0)
  rw [su_one (i := i) 12 hi.1 (by omega) (fun a h1 h2 h3 => su_zero 16 (fun b h4 h5 => gI_z (fun k => if_neg h3)))] at e1
  have e2 : su (fun b => gI M.ai M.ka (fun a b k => if a = i then U3 s k (-3) (M.kx b) (M.xb b) 1 0 0 else 0) i b) 16 = (1 - 2 * s) * su (mA M i) M.cn.toNat := by
    rw [su_ext (n := M.cn.toNat) 16 (by omega) (fun b h1 h2 => by
      unfold gI
      rw [if_neg (c := M.ai (16 * i + b) ≠ 0) (fun z => by have := (h.eb i b hi.1 hi.2 (by omega) (by omega) z).2; omega)]), ← su_sc]
    refine su_congr _ (fun b h1 h2 => ?_)
    unfold gI mA
    dsimp only
    rw [if_pos (c := i = i) rfl]
    split
    · exact U3_s
    · rw [Int.mul_zero]
  rw [← e2, ← e1, h.n.2.2.1]
  refine su_mul _ (fun k h1 h2 => ?_)
  have h3 := hd.e k (by omega) (by rw [h.n.2.2.1]; omega)
  have h4 := hd.ev k (by omega) (by omega)
  have h5 := hd.cv (d.e2 k) (by omega) (by omega)
  unfold sA
  by_cases c : d.e1 k = i
  · rw [if_pos c, if_pos c]
    exact T2_U (hv k h1 (by omega)) (h.x (d.e2 k) (by omega) (by omega)) (by omega)
  · rw [if_neg c, if_neg c, Int.zero_mul]
/-- a reduced cost, times a number -/
theorem L_rC {d : DS} {M : MS} (hd : DI d) (hM : MI M) (h : Rel d M) {s j i kf qf : Int} {fm fe : Int → Int} (hj : 0 ≤ j ∧ j < M.cn) (hf : EqN (fm i) (fe i) kf qf) (hfe : -60 ≤ fe i) : rC d s j fm fe i * W18 = U3 s (M.kc j) (-3) kf qf 1 0 0 + su (fun a => if M.qi (16 * a + j) ≠ 0 then U3 s (M.kq (16 * a + j)) (-3) (M.kx a) (M.xb a) kf qf 0 else 0) M.cn.toNat + su (fun a => if M.ai (16 * a + j) ≠ 0 then U3 (1 - s) (M.ka (16 * a + j)) (-3) (M.ky a) (M.yb a) kf qf 0 else 0) M.rw.toNat := by
  have hcn := hM.cn
  have hen := hM.en
  have hpr := hM.pr
  have hrw := hM.rw
  have hc := hd.c j (by omega) (by omega)
  unfold rC
  rw [Int.add_mul, Int.add_mul, T2_U (h.c j hj.1 hj.2) hf (by omega)]
  have eP : su (sP d s j fm fe i) d.pc.toNat * W18 = su (fun a => if M.qi (16 * a + j) ≠ 0 then U3 s (M.kq (16 * a + j)) (-3) (M.kx a) (M.xb a) kf qf 0 else 0) M.cn.toNat := by
    obtain ⟨v, hv, hL⟩ := h.p
    have e1 := hL (fun a b k => if b = j then U3 s k (-3) (M.kx a) (M.xb a) kf qf 0 else 0)
    have e2 : su (fun a => su (fun b => gI M.qi M.kq (fun a b k => if b = j then U3 s k (-3) (M.kx a) (M.xb a) kf qf 0 else 0) a b) 16) 16 = su (fun a => if M.qi (16 * a + j) ≠ 0 then U3 s (M.kq (16 * a + j)) (-3) (M.kx a) (M.xb a) kf qf 0 else 0) M.cn.toNat := by
      rw [← su_ext (n := M.cn.toNat) 16 (by omega) (fun a h1 h2 => by
        show (if M.qi (16 * a + j) ≠ 0 then _ else (0 : Int)) = 0
        rw [if_neg (fun z => by have := (h.pb a j (by omega) (by omega) hj.1 (by omega) z).1; omega)])]
      refine su_congr 16 (fun a h1 h2 => ?_)
      rw [su_one (i := j) 16 hj.1 (by omega) (fun b h4 h5 h6 => gI_z (fun k => if_neg h6))]
      unfold gI
      dsimp only
      rw [if_pos (c := j = j) rfl]
    rw [← e2, ← e1, h.n.2.2.2]
    refine su_mul _ (fun k h1 h2 => ?_)
    have h3 := hd.p k (by omega) (by rw [h.n.2.2.2]; omega)
    have h4 := hd.pv k (by omega) (by omega)
    have h5 := hd.cv (d.p1 k) (by omega) (by omega)
    have h6 := hd.cv (d.p2 k) (by omega) (by omega)
    have t1 := T3_U (s := s) (pw := 0) (hv k h1 (by omega)) (h.x (d.p1 k) (by omega) (by omega)) hf (by omega)
    have t2 := T3_U (s := s) (pw := 0) (hv k h1 (by omega)) (h.x (d.p2 k) (by omega) (by omega)) hf (by omega)
    unfold sP
    by_cases c1 : d.p1 k = j
    · rw [if_pos (Or.inl c1), if_pos c1]
      by_cases c2 : d.p1 k = d.p2 k
      · rw [if_pos c2, if_pos (show d.p2 k = j by omega), t2, c2]
      · rw [if_neg c2, if_neg (show ¬ d.p2 k = j by omega), if_pos c1, t2, Int.zero_add]
    · by_cases c2 : d.p2 k = j
      · rw [if_pos (Or.inr c2), if_neg c1, if_neg (show ¬ d.p1 k = d.p2 k by omega), if_pos c2, if_neg c1, t1, Int.add_zero]
      · rw [if_neg (by omega), if_neg c2, if_neg c1, Int.zero_mul]
        split <;> rfl
  have eE : su (sE d s j fm fe i) d.ec.toNat * W18 = su (fun a => if M.ai (16 * a + j) ≠ 0 then U3 (1 - s) (M.ka (16 * a + j)) (-3) (M.ky a) (M.yb a) kf qf 0 else 0) M.rw.toNat := by
    obtain ⟨v, hv, hL⟩ := h.e
    have e1 := hL (fun a b k => if b = j then U3 (1 - s) k (-3) (M.ky a) (M.yb a) kf qf 0 else 0)
    have e2 : su (fun a => su (fun b => gI M.ai M.ka (fun a b k => if b = j then U3 (1 - s) k (-3) (M.ky a) (M.yb a) kf qf 0 else 0) a b) 16) 12 = su (fun a => if M.ai (16 * a + j) ≠ 0 then U3 (1 - s) (M.ka (16 * a + j)) (-3) (M.ky a) (M.yb a) kf qf 0 else 0) M.rw.toNat := by
      rw [← su_ext (n := M.rw.toNat) 12 (by omega) (fun a h1 h2 => by
        show (if M.ai (16 * a + j) ≠ 0 then _ else (0 : Int)) = 0
        rw [if_neg (fun z => by have := (h.eb a j (by omega) (by omega) hj.1 (by omega) z).1; omega)])]
      refine su_congr 12 (fun a h1 h2 => ?_)
      rw [su_one (i := j) 16 hj.1 (by omega) (fun b h4 h5 h6 => gI_z (fun k => if_neg h6))]
      unfold gI
      dsimp only
      rw [if_pos (c := j = j) rfl]
    rw [← e2, ← e1, h.n.2.2.1]
    refine su_mul _ (fun k h1 h2 => ?_)
    have h3 := hd.e k (by omega) (by rw [h.n.2.2.1]; omega)
    have h4 := hd.ev k (by omega) (by omega)
    have h5 := hd.rv (d.e1 k) (by omega) (by omega)
    unfold sE
    by_cases c : d.e2 k = j
    · rw [if_pos c, if_pos c]
      exact T3_U (hv k h1 (by omega)) (h.y (d.e1 k) (by omega) (by omega)) hf (by omega)
    · rw [if_neg c, if_neg c, Int.zero_mul]
  rw [eP, eE]
theorem L_R {d : DS} {M : MS} (hd : DI d) (hM : MI M) (h : Rel d M) {j : Int} (hj : 0 ≤ j ∧ j < M.cn) : (0 + rC d 0 j d.nm d.ne 0) * W18 = mR M j := by
  have hn := hd.n 0 (by omega) (by omega)
  rw [Int.zero_add, L_rC hd hM h hj h.one (by omega)]
  unfold mR mQ mY
  rw [Int.zero_add, show (1 : Int) - 0 = 1 from rfl]
theorem L_T {d : DS} {M : MS} (hd : DI d) (hM : MI M) (h : Rel d M) {j kf : Int} {fm fe : Int → Int} (hj : 0 ≤ j ∧ j < M.cn) (hf : EqN (fm j) (fe j) kf (-3)) (hfe : -60 ≤ fe j) : rC d 1 j fm fe j * W18 = gT M j kf := by
  rw [L_rC hd hM h hj hf hfe, show (1 : Int) - 1 = 0 from rfl]; rfl
theorem mx_mul {a b : Int} : max a b * W18 = max (a * W18) (b * W18) := by
  have hp := W18_pos
  rcases (show a ≤ b ∨ b ≤ a by omega) with r | r
  · have := Int.mul_le_mul_of_nonneg_right r (Int.le_of_lt hp)
    rw [show max a b = b by omega]; omega
  · have := Int.mul_le_mul_of_nonneg_right r (Int.le_of_lt hp)
    rw [show max a b = a by omega]; omega
theorem sgW {a b : Int} (h : a * W18 = b) : (0 < a ↔ 0 < b) ∧ (a < 0 ↔ b < 0) := by
  have hp := W18_pos
  rcases (show a < 0 ∨ a = 0 ∨ 0 < a by omega) with c | c | c
  · have := Int.mul_neg_of_neg_of_pos c hp; omega
  · rw [c, Int.zero_mul] at h; omega
  · have := Int.mul_pos c hp; omega
theorem nn_mul {a : Int} (h : 0 ≤ a) : 0 ≤ a * W18 := Int.mul_nonneg h (Int.le_of_lt W18_pos)
theorem L_row {d : DS} {M : MS} (hd : DI d) (hM : MI M) (h : Rel d M) {i V : Int} (hi : 0 ≤ i ∧ i < M.rw) (hV : 0 ≤ V) : rowH d i (rowL d i V) * W18 = max (V * W18) (xr M i) ∧ 0 ≤ rowH d i (rowL d i V) := by
  have hrw := hM.rw
  obtain ⟨⟨f1, f2⟩, g1, g2⟩ := h.r i hi.1 hi.2
  have z1 := hM.rli i (by omega) (by omega)
  have z2 := hM.rhi i (by omega) (by omega)
  have b1 := hd.rl i (by omega) (by omega)
  have b2 := hd.rh i (by omega) (by omega)
  have a0 := L_act hd hM h (s := 0) (i := i) (by omega)
  have a1 := L_act hd hM h (s := 1) (i := i) (by omega)
  rw [show (1 : Int) - 2 * 0 = 1 from rfl, Int.one_mul] at a0
  rw [show (1 : Int) - 2 * 1 = -1 from rfl, Int.neg_mul, Int.one_mul] at a1
  have nV := nn_mul hV
  have hL : rowL d i V * W18 = max (V * W18) (xrL M i) ∧ 0 ≤ rowL d i V := by
    unfold rowL xrL
    by_cases c : M.rli i ≠ 0
    · rw [if_pos (by omega), if_pos c, mx_mul, Int.add_mul, Int.add_mul, Int.zero_mul, Int.zero_add, a1, T1_U (g1 c) (by omega)]
      have e : mrL M i = 0 + su (mA M i) M.cn.toNat + U3 1 (M.krl i) (-3) 1 0 1 0 0 := rfl
      rw [U3_1] at e
      unfold po; omega
    · rw [if_neg (by omega), if_neg c]; omega
  have nL := nn_mul hL.2
  unfold xr
  rw [← show max (max (V * W18) (xrL M i)) (xrH M i) = max (V * W18) (max (xrL M i) (xrH M i)) by omega, ← hL.1]
  generalize rowL d i V = X at *
  unfold rowH xrH
  by_cases c : M.rhi i ≠ 0
  · rw [if_pos (by omega), if_pos c, mx_mul, Int.add_mul, Int.add_mul, Int.zero_mul, Int.zero_add, a0, T1_U (g2 c) (by omega)]
    have e : mrH M i = 0 + su (mA M i) M.cn.toNat + U3 1 (M.krh i) (-3) 1 0 1 0 0 := rfl
    unfold po; omega
  · rw [if_neg (by omega), if_neg c]; omega
theorem L_col {d : DS} {M : MS} (hd : DI d) (hM : MI M) (h : Rel d M) {i V : Int} (hi : 0 ≤ i ∧ i < M.cn) (hV : 0 ≤ V) : colH d i (colL d i V) * W18 = max (V * W18) (xc M i) ∧ 0 ≤ colH d i (colL d i V) := by
  have hcn := hM.cn
  obtain ⟨⟨f1, f2⟩, g1, g2⟩ := h.l i hi.1 hi.2
  have z1 := hM.li i (by omega) (by omega)
  have z2 := hM.hi i (by omega) (by omega)
  have b1 := hd.cl i (by omega) (by omega)
  have b2 := hd.ch i (by omega) (by omega)
  have b3 := hd.cv i (by omega) (by omega)
  have hx := h.x i (by omega) (by omega)
  have nV := nn_mul hV
  have hL : colL d i V * W18 = max (V * W18) (xcL M i) ∧ 0 ≤ colL d i V := by
    unfold colL xcL
    by_cases c : M.li i ≠ 0
    · rw [if_pos (by omega), if_pos c, mx_mul, Int.add_mul, Int.add_mul, Int.zero_mul, Int.zero_add, T1_U (g1 c) (by omega), T1_U hx (by omega)]
      have e : mcL M i = 0 + U3 0 (M.kl i) (-3) 1 0 1 0 0 + U3 1 (M.kx i) (M.xb i) 1 0 1 0 0 := rfl
      unfold po; omega
    · rw [if_neg (by omega), if_neg c]; omega
  have nL := nn_mul hL.2
  unfold xc
  rw [← show max (max (V * W18) (xcL M i)) (xcH M i) = max (V * W18) (max (xcL M i) (xcH M i)) by omega, ← hL.1]
  generalize colL d i V = X at *
  unfold colH xcH
  by_cases c : M.hi i ≠ 0
  · rw [if_pos (by omega), if_pos c, mx_mul, Int.add_mul, Int.add_mul, Int.zero_mul, Int.zero_add, T1_U hx (by omega), T1_U (g2 c) (by omega)]
    have e : mcH M i = 0 + U3 0 (M.kx i) (M.xb i) 1 0 1 0 0 + U3 1 (M.kh i) (-3) 1 0 1 0 0 := rfl
    unfold po; omega
  · rw [if_neg (by omega), if_neg c]; omega
theorem L_dualC {d : DS} {M : MS} (hd : DI d) (hM : MI M) (h : Rel d M) {j V : Int} (hj : 0 ≤ j ∧ j < M.cn) (hV : 0 ≤ V) : dualC d j V * W18 = max (V * W18) (xd M j) ∧ 0 ≤ dualC d j V := by
  have hcn := hM.cn
  obtain ⟨⟨f1, f2⟩, -, -⟩ := h.l j hj.1 hj.2
  have z1 := hM.li j (by omega) (by omega)
  have z2 := hM.hi j (by omega) (by omega)
  have e := L_R hd hM h hj
  have sg := sgW e
  have nV := nn_mul hV
  unfold dualC dualV xd
  generalize 0 + rC d 0 j d.nm d.ne 0 = C at *
  by_cases c : 0 < mR M j ∧ M.li j = 0
  · rw [if_pos (by omega), if_pos c, mx_mul, e]
    unfold po; omega
  · rw [if_neg (by omega), if_neg c]
    by_cases c2 : mR M j < 0 ∧ M.hi j = 0
    · rw [if_pos (by omega), if_pos c2, mx_mul, Int.neg_mul, e]
      unfold po; omega
    · rw [if_neg (by omega), if_neg c2]; omega
theorem L_dualR {d : DS} {M : MS} (hd : DI d) (hM : MI M) (h : Rel d M) {i V : Int} (hi : 0 ≤ i ∧ i < M.rw) (hV : 0 ≤ V) : dualR d i V * W18 = max (V * W18) (xp M i) ∧ 0 ≤ dualR d i V := by
  have hrw := hM.rw
  obtain ⟨⟨f1, f2⟩, -, -⟩ := h.r i hi.1 hi.2
  have z1 := hM.rli i (by omega) (by omega)
  have z2 := hM.rhi i (by omega) (by omega)
  have b3 := hd.rv i (by omega) (by omega)
  have e : (0 + T1 0 0 d.rvm d.rve i) * W18 = M.ky i * 2 ^ (M.yb i + 3400).toNat := by
    rw [Int.zero_add, T1_U (h.y i (by omega) (by omega)) (by omega)]
    unfold U3
    rw [show (1 : Int) - 2 * 0 = 1 from rfl, Int.one_mul, Int.mul_one, Int.mul_one, show M.yb i + 0 + 0 + 0 + 3400 = M.yb i + 3400 by omega]
  have sg := sgW e
  have hp := p2_pos (M.yb i + 3400).toNat
  have sk : (0 < M.ky i * 2 ^ (M.yb i + 3400).toNat ↔ 0 < M.ky i) ∧ (M.ky i * 2 ^ (M.yb i + 3400).toNat < 0 ↔ M.ky i < 0) := by
    rcases (show M.ky i < 0 ∨ M.ky i = 0 ∨ 0 < M.ky i by omega) with c | c | c
    · have := Int.mul_neg_of_neg_of_pos c hp; omega
    · rw [c, Int.zero_mul]; omega
    · have := Int.mul_pos c hp; omega
  have nV := nn_mul hV
  unfold dualR dualV xp pvM pvE
  generalize 0 + T1 0 0 d.rvm d.rve i = C at *
  by_cases c : 0 < M.ky i ∧ M.rli i = 0
  · rw [if_pos (by omega), if_pos c, if_pos c, mx_mul, e]
    omega
  · rw [if_neg (by omega), if_neg c, if_neg c]
    by_cases c2 : M.ky i < 0 ∧ M.rhi i = 0
    · rw [if_pos (by omega), if_pos c2, if_pos c2, mx_mul, Int.neg_mul, e, Int.neg_mul]
      omega
    · rw [if_neg (by omega), if_neg c2, if_neg c2, Int.zero_mul]; omega
theorem L_itr {F : Int → Int → Int} {x : Int → Int} : ∀ (n : Nat) {V : Int}, 0 ≤ V → (∀ i V : Int, 0 ≤ i → i < (n : Int) → 0 ≤ V → F i V * W18 = max (V * W18) (x i) ∧ 0 ≤ F i V) → itr F n V * W18 = itr (fun i U => max U (x i)) n (V * W18) ∧ 0 ≤ itr F n V
  | 0, V, hV, _ => ⟨rfl, hV⟩
  | n + 1, V, hV, h => by
    have ih := L_itr n hV (fun i V a b c => h i V a (by omega) c)
    have s := h n (itr F n V) (by omega) (by omega) ih.2
    rw [ih.1] at s
    exact s
theorem L_gapR {d : DS} {M : MS} (hd : DI d) (hM : MI M) (h : Rel d M) {i : Int} (hi : 0 ≤ i ∧ i < M.rw) : gapR d i * W18 = mGR M i := by
  have hrw := hM.rw
  obtain ⟨⟨f1, f2⟩, g1, g2⟩ := h.r i hi.1 hi.2
  have hy := h.y i (by omega) (by omega)
  have sg := hy.sg
  have b1 := hd.rl i (by omega) (by omega)
  have b2 := hd.rh i (by omega) (by omega)
  have b3 := hd.rv i (by omega) (by omega)
  have z1 := hM.rli i (by omega) (by omega)
  have z2 := hM.rhi i (by omega) (by omega)
  unfold gapR mGR
  by_cases c : 0 < M.ky i ∧ M.rli i ≠ 0
  · rw [if_pos (by omega), if_pos c]
    exact T2_U hy (g1 c.2) (by omega)
  · rw [if_neg (by omega), if_neg c]
    by_cases c2 : M.ky i < 0 ∧ M.rhi i ≠ 0
    · rw [if_pos (by omega), if_pos c2]
      exact T2_U hy (g2 c2.2) (by omega)
    · rw [if_neg (by omega), if_neg c2, Int.zero_mul]
theorem L_gapC {d : DS} {M : MS} (hd : DI d) (hM : MI M) (h : Rel d M) {j : Int} (hj : 0 ≤ j ∧ j < M.cn) : gapC d j * W18 = mGC M j := by
  have hcn := hM.cn
  obtain ⟨⟨f1, f2⟩, g1, g2⟩ := h.l j hj.1 hj.2
  have z1 := hM.li j (by omega) (by omega)
  have z2 := hM.hi j (by omega) (by omega)
  have b1 := hd.cl j (by omega) (by omega)
  have b2 := hd.ch j (by omega) (by omega)
  have sg := sgW (L_R hd hM h hj)
  unfold gapC mGC gU gB
  generalize 0 + rC d 0 j d.nm d.ne 0 = C at *
  by_cases c : 0 < mR M j
  · rw [if_pos c, if_pos c]
    by_cases c1 : M.li j ≠ 0
    · rw [if_pos (by omega), if_pos c1]
      exact L_T hd hM h hj (g1 c1) (by omega)
    · rw [if_neg (by omega), if_neg (by omega), if_neg c1, Int.zero_mul]
  · rw [if_neg c, if_neg c, if_neg (by omega)]
    by_cases c1 : mR M j < 0 ∧ M.hi j ≠ 0
    · rw [if_pos (by omega), if_pos c1, if_pos (by decide)]
      exact L_T hd hM h hj (g2 c1.2) (by omega)
    · rw [if_neg (by omega), if_neg c1, if_neg (by decide), Int.zero_mul]
theorem U3_2 {k1 q1 k2 q2 k3 q3 b : Int} (h : 0 ≤ q1 + q2 + q3 + b + 3400) : U3 0 k1 q1 k2 q2 k3 q3 (b + 1) = U3 0 k1 q1 k2 q2 k3 q3 b + U3 0 k1 q1 k3 q3 k2 q2 b := by
  unfold U3
  rw [show (q1 + q2 + q3 + (b + 1) + 3400).toNat = (q1 + q2 + q3 + b + 3400).toNat + 1 by omega, p2_add, show q1 + q3 + q2 + b + 3400 = q1 + q2 + q3 + b + 3400 by omega, show (2 : Int) ^ 1 = 1 + 1 from rfl, Int.mul_add, Int.mul_one, Int.mul_add]
  congr 1
  generalize (2 : Int) ^ (q1 + q2 + q3 + b + 3400).toNat = P
  simp only [Int.mul_assoc, Int.mul_left_comm, Int.mul_comm]
theorem L_sum {d : DS} {M : MS} (hd : DI d) (hM : MI M) (h : Rel d M) {b hv : Int} (hb : b = hv - 2) (hh : hv = 1 ∨ hv = 2) : (su (sC d) d.cc.toNat + su (sQ d b) d.pc.toNat) * W18 = su (mC M hv) M.cn.toNat := by
  have hcn := hM.cn
  have hpr := hM.pr
  rw [Int.add_mul]
  have e1 : su (sC d) d.cc.toNat * W18 = su (fun j => U3 0 (M.kc j) (-3) (M.kx j) (M.xb j) 1 0 0) M.cn.toNat := by
    rw [h.n.2.1]
    refine su_mul _ (fun j h1 h2 => ?_)
    have b1 := hd.c j (by omega) (by omega)
    have b3 := hd.cv j (by omega) (by omega)
    exact T2_U (h.c j h1 (by omega)) (h.x j (by omega) (by omega)) (by omega)
  have e2 : su (sQ d b) d.pc.toNat * W18 = su (fun j => su (mG M hv j) M.cn.toNat) M.cn.toNat := by
    obtain ⟨v, hv9, hL⟩ := h.p
    have e1 := hL (fun x y k => U3 0 k (-3) (M.kx x) (M.xb x) (M.kx y) (M.xb y) b)
    have e3 : su (fun j => su (mG M hv j) M.cn.toNat) M.cn.toNat = su (fun x => su (fun y => gI M.qi M.kq (fun x y k => U3 0 k (-3) (M.kx x) (M.xb x) (M.kx y) (M.xb y) b) x y) 16) 16 := by
      have e4 : su (fun x => su (fun y => gI M.qi M.kq (fun x y k => U3 0 k (-3) (M.kx x) (M.xb x) (M.kx y) (M.xb y) b) x y) 16) 16 = su (fun y => su (fun x => gI M.qi M.kq (fun x y k => U3 0 k (-3) (M.kx x) (M.xb x) (M.kx y) (M.xb y) b) x y) 16) 16 := su_swap _ 16 16
      rw [e4, su_ext (n := M.cn.toNat) 16 (by omega) (fun y h1 h2 => su_zero 16 (fun x h3 h4 => by
        unfold gI
        rw [if_neg (fun z => by have := (h.pb x y (by omega) (by omega) (by omega) (by omega) z).2; omega)]))]
      refine su_congr _ (fun y h1 h2 => ?_)
      rw [su_ext (n := M.cn.toNat) 16 (by omega) (fun x h3 h4 => by
        unfold gI
        rw [if_neg (fun z => by have := (h.pb x y (by omega) (by omega) (by omega) (by omega) z).1; omega)])]
      refine su_congr _ (fun x h3 h4 => ?_)
      unfold mG gI
      rw [hb]
    rw [e3, ← e1, h.n.2.2.2]
    refine su_mul _ (fun k h1 h2 => ?_)
    have h3 := hd.p k (by omega) (by rw [h.n.2.2.2]; omega)
    have h4 := hd.pv k (by omega) (by omega)
    have h5 := hd.cv (d.p1 k) (by omega) (by omega)
    have h6 := hd.cv (d.p2 k) (by omega) (by omega)
    have h7 := hM.xb (d.p1 k) (by omega) (by omega)
    have h8 := hM.xb (d.p2 k) (by omega) (by omega)
    unfold sQ
    by_cases c : d.p1 k = d.p2 k
    · rw [if_pos c, if_pos c]
      exact T3_U (hv9 k h1 (by omega)) (h.x (d.p1 k) (by omega) (by omega)) (h.x (d.p2 k) (by omega) (by omega)) (by omega)
    · rw [if_neg c, if_neg c, T3_U (hv9 k h1 (by omega)) (h.x (d.p1 k) (by omega) (by omega)) (h.x (d.p2 k) (by omega) (by omega)) (by omega)]
      exact U3_2 (by omega)
  rw [e1, e2]
  exact (su_add _ _ _).symm
/-- the figures are the same number -/
theorem L_fig {d : DS} {M : MS} (hd : DI d) (hM : MI M) (h : Rel d M) {x k : Int} (hx : 0 ≤ x ∧ x ≤ 7) (ho : okA d x k) : figV d x k * W18 = mF M x k := by
  have hrw := hM.rw
  have hcn := hM.cn
  obtain ⟨n1, n2, n3, n4⟩ := h.n
  unfold okA at ho
  rw [n1, n2] at ho
  rcases (show x = 0 ∨ x = 1 ∨ x = 2 ∨ x = 3 ∨ x = 4 ∨ x = 5 ∨ x = 6 ∨ x = 7 by omega) with rfl | rfl | rfl | rfl | rfl | rfl | rfl | rfl
  · show itr (fun i V => rowH d i (rowL d i V)) d.rc.toNat 0 * W18 = itr (fun i V => max V (xr M i)) M.rw.toNat 0
    rw [n1, (L_itr (x := xr M) M.rw.toNat (Int.le_refl 0) (fun i V a b c => L_row hd hM h (by omega) c)).1, Int.zero_mul]
  · show itr (fun j V => colH d j (colL d j V)) d.cc.toNat 0 * W18 = itr (fun j V => max V (xc M j)) M.cn.toNat 0
    rw [n2, (L_itr (x := xc M) M.cn.toNat (Int.le_refl 0) (fun i V a b c => L_col hd hM h (by omega) c)).1, Int.zero_mul]
  · show itr (dualR d) d.rc.toNat (itr (dualC d) d.cc.toNat 0) * W18 = itr (fun i V => max V (xp M i)) M.rw.toNat (itr (fun j V => max V (xd M j)) M.cn.toNat 0)
    have s := L_itr (F := dualC d) (x := xd M) M.cn.toNat (Int.le_refl 0) (fun i V a b c => L_dualC hd hM h (by omega) c)
    rw [n1, n2, (L_itr (F := dualR d) (x := xp M) M.rw.toNat s.2 (fun i V a b c => L_dualR hd hM h (by omega) c)).1, s.1, Int.zero_mul]
  · show (0 + su (sC d) d.cc.toNat + su (sQ d 0) d.pc.toNat + su (gapR d) d.rc.toNat + su (gapC d) d.cc.toNat) * W18 = mGap M
    rw [Int.zero_add, Int.add_mul, Int.add_mul, L_sum hd hM h (hv := 2) (by omega) (by omega), n1, n2, su_mul (G := mGR M) _ (fun i a b => L_gapR hd hM h (by omega)), su_mul (G := mGC M) _ (fun i a b => L_gapC hd hM h (by omega))]
    unfold mGap
    rw [Int.zero_add]
  · show (0 + T1 0 0 d.om d.oe 0 + su (sC d) d.cc.toNat + su (sQ d (-1)) d.pc.toNat) * W18 = mGo M
    have ho := hd.o 0 (by omega) (by omega)
    rw [Int.zero_add, Int.add_assoc, Int.add_mul, L_sum hd hM h (hv := 1) (by omega) (by omega), T1_U h.o (by omega), U3_n, ← U3_1]
    unfold mGo
    rw [Int.zero_add]
  · show rowH d k (rowL d k 0) * W18 = xr M k
    have := xr_nn M k
    rw [(L_row hd hM h (by omega) (Int.le_refl 0)).1, Int.zero_mul]; omega
  · show colH d k (colL d k 0) * W18 = xc M k
    have := xc_nn M k
    rw [(L_col hd hM h (by omega) (Int.le_refl 0)).1, Int.zero_mul]; omega
  · exact L_R hd hM h (by omega)
/-! the class's rounding and the reference's -/
theorem tp_W {V : Int} (h : 0 < V) : tp (V * W18) = tp V + 1861 := by
  obtain ⟨k, hk, a1, a2⟩ := tp_spec h
  rw [hk]
  have hp := W18_pos
  have b1 := Int.mul_le_mul_of_nonneg_right a1 (Int.le_of_lt hp)
  have b2 := Int.mul_lt_mul_of_pos_right a2 hp
  unfold W18 at b1 b2 ⊢
  rw [← p2_add] at b1 b2
  have := tp_eq (V := V * 2 ^ 1861) (k := k + 1861) b1 (by rw [show k + 1861 + 1 = k + 1 + 1861 by omega]; exact b2)
  rw [this]; omega
theorem ru_W {V : Int} (h : V ≠ 0) : upL ((V * W18).natAbs : Int) = ruL V - 1539 ∧ upM (V * W18) = ruM V := by
  have hp := W18_pos
  have e0 : ((V * W18).natAbs : Int) = (V.natAbs : Int) * W18 := by
    rw [Int.natAbs_mul, Int.natCast_mul, show ((W18.natAbs : Nat) : Int) = W18 by omega]
  have e1 : upL ((V * W18).natAbs : Int) = ruL V - 1539 := by
    rw [e0]
    unfold upL ruL
    rw [tp_W (by omega)]; omega
  refine ⟨e1, ?_⟩
  have h9 := upL_ge ((V * W18).natAbs : Int)
  have e2 : (upL ((V * W18).natAbs : Int) + 3400).toNat = (ruL V).toNat + 1861 := by
    rw [e1]
    have : 465 ≤ ruL V := by unfold ruL; omega
    omega
  have ed : ∀ A : Int, A * W18 / 2 ^ ((ruL V).toNat + 1861) = A / 2 ^ (ruL V).toNat ∧ (A * W18 % 2 ^ ((ruL V).toNat + 1861) ≠ 0 ↔ A % 2 ^ (ruL V).toNat ≠ 0) := fun A => by
    rw [p2_add]
    have ew : (2 : Int) ^ 1861 = W18 := rfl
    rw [ew]
    refine ⟨Int.mul_ediv_mul_of_pos_left _ _ hp, ?_⟩
    rw [Int.mul_comm A, Int.mul_comm (2 ^ (ruL V).toNat), Int.mul_emod_mul_of_pos _ _ hp]
    constructor
    · intro z y; exact z (by rw [y, Int.mul_zero])
    · intro z y
      rcases Int.mul_eq_zero.mp y with w | w
      · omega
      · exact z w
  unfold upM ruM
  by_cases c : V < 0
  · have c2 := Int.mul_neg_of_neg_of_pos c hp
    rw [if_pos c2, if_pos c, e2, e0, (ed _).1]
  · have c2 := Int.mul_pos (show 0 < V by omega) hp
    rw [if_neg (by omega), if_neg c]
    rw [show ((V * W18).natAbs : Int) = V * W18 by omega] at e2
    rw [e2, (ed V).1]
    congr 1
    by_cases z : V % 2 ^ (ruL V).toNat ≠ 0
    · rw [zP_t z, zP_t ((ed V).2.mpr z)]
    · rw [zP_f z, zP_f (fun w => z ((ed V).2.mp w))]

theorem too_W {V : Int} : tooG V ↔ tZ (V * W18) = 1 := by
  have hp := W18_pos
  have hM := ruM_r (V := V)
  rcases (show V < 0 ∨ V = 0 ∨ 0 < V by omega) with c | c | c
  · have c2 := Int.mul_neg_of_neg_of_pos c hp
    rw [tZ_le (by omega)]
    have t := ruL_top (V := V)
    unfold tooG
    have : ruM V = -((V.natAbs : Int) / 2 ^ (ruL V).toNat) := by unfold ruM; rw [if_pos c]
    omega
  · rw [c, Int.zero_mul, tZ_le (by omega)]
    unfold tooG
    have : ruM 0 = 0 := by unfold ruM; rw [if_neg (by omega), Int.zero_ediv, Int.zero_emod, zP_f (fun h => h rfl)]; rfl
    omega
  · have c2 := Int.mul_pos c hp
    obtain ⟨e1, e2⟩ := ru_W (V := V) (by omega)
    rw [show ((V * W18).natAbs : Int) = V * W18 by omega] at e1
    have a1 : V * W18 ≤ Ru (V * W18) := Ru_ge _
    have a2 := upM_cl c2
    have a3 : 0 < ruM V := by
      rw [← e2, a2]
      rcases (show 0 < cl (V * W18) (sx (V * W18)) ∨ cl (V * W18) (sx (V * W18)) ≤ 0 by omega) with r | r
      · exact r
      · have := Int.mul_le_mul_of_nonneg_right r (Int.le_of_lt (p2_pos (sx (V * W18))))
        rw [Int.zero_mul] at this
        unfold Ru at a1; omega
    constructor
    · intro t
      exact tZ_t ⟨c2, by rw [e1, e2]; have := t.2; omega⟩
    · intro t
      have := (tZ_1 t).2
      rw [e1, e2] at this
      exact ⟨a3, by omega⟩
/-- the double that the class answers is the reference's, as a number -/
theorem cer_W {V : Int} (h : ¬ tooG V) : ∃ m q : Int, cerD V = dM m q ∧ dOk m q ∧ m * zQ q = uM (V * W18) * zQ (uE (V * W18)) := by
  have hp := W18_pos
  have z : tZ (V * W18) = 0 := by
    rcases tZ_01 (V * W18) with a | a
    · exact a
    · exact absurd (too_W.mpr a) h
  rcases (show V < 0 ∨ V = 0 ∨ 0 < V by omega) with c | c | c
  · have c2 := Int.mul_neg_of_neg_of_pos c hp
    obtain ⟨e1, e2⟩ := ru_W (V := V) (by omega)
    rw [show ((V * W18).natAbs : Int) = -(V * W18) by omega] at e1
    refine ⟨uM (V * W18), uE (V * W18), ?_, u_ok, rfl⟩
    rw [(u_n c2).1, (u_n c2).2, e1, e2]
    unfold cerD
    by_cases r : 971 < ruL V - 1539
    · rw [if_pos r, if_pos r, if_pos r]
    · rw [if_neg r, if_neg r, if_neg r]
  · have e0 : ruM 0 = 0 := by unfold ruM; rw [if_neg (by omega), Int.zero_ediv, Int.zero_emod, zP_f (fun h => h rfl)]; rfl
    have e1 : ruL 0 = 465 := by unfold ruL; rw [show tp (((0 : Int).natAbs : Int)) = -1 from if_pos rfl]; rfl
    refine ⟨0, -1074, ?_, by unfold dOk; omega, ?_⟩
    · rw [c]; unfold cerD; rw [e0, e1]; rfl
    · rw [c, Int.zero_mul, Int.zero_mul, uM_0, Int.zero_mul]
  · have c2 := Int.mul_pos c hp
    obtain ⟨e1, e2⟩ := ru_W (V := V) (by omega)
    rw [show ((V * W18).natAbs : Int) = V * W18 by omega] at e1
    refine ⟨uM (V * W18), uE (V * W18), ?_, u_ok, rfl⟩
    have n : ¬ (971 < upL (V * W18) ∨ upL (V * W18) = 971 ∧ upM (V * W18) = 9007199254740992) := fun q => tZ_0 z ⟨c2, q⟩
    rw [(u_p z c2).1, (u_p z c2).2, e2]
    unfold cerD
    rw [if_neg (by omega), e1]
theorem sgI_W {V X : Int} (h : V * W18 = X) : sgI V = sgI X := by
  have := sgW h
  rcases (show V < 0 ∨ V = 0 ∨ 0 < V by omega) with c | c | c
  · unfold sgI; rw [if_pos c, if_pos (this.2.mp c)]
  · rw [sgI_0 c, sgI_0 (by omega)]
  · rw [sgI_1 c, sgI_1 (this.1.mp c)]

