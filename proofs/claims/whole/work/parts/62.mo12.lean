def tZ (V : Int) : Int := if 0 < V ∧ (971 < upL V ∨ upL V = 971 ∧ upM V = 9007199254740992) then 1 else 0
theorem tZ_t {V : Int} (h : tooU V) : tZ V = 1 := if_pos h
theorem tZ_f {V : Int} (h : ¬ tooU V) : tZ V = 0 := if_neg h
theorem tZ_01 (V : Int) : tZ V = 0 ∨ tZ V = 1 := by unfold tZ; split <;> omega
theorem tZ_le {V : Int} (h : V ≤ 0) : tZ V = 0 := if_neg (fun q => by have := q.1; omega)
theorem tZ_1 {V : Int} (h : tZ V = 1) : tooU V := by
  by_cases q : tooU V
  · exact q
  · rw [tZ_f q] at h; omega
theorem tZ_0 {V : Int} (h : tZ V = 0) : ¬ tooU V := fun q => by rw [tZ_t q] at h; omega
def eU (er V : Int) : Int := fE er (tZ V) 3
theorem eU_r {er V : Int} (h : 0 ≤ er ∧ er ≤ 3) : 0 ≤ eU er V ∧ eU er V ≤ 3 := by unfold eU fE; split <;> omega
theorem eU_z {er V : Int} (h : V ≤ 0) : eU er V = er := by unfold eU fE; rw [tZ_le h, if_neg (fun q => q.1 rfl)]
/-- what rounding up answers -/
def uM (V : Int) : Int := if tZ V = 1 then 0 else if V < 0 ∧ 971 < upL (-V) then -9007199254740991 else if V = 0 then 0 else upM V
def uE (V : Int) : Int := if tZ V = 1 then 0 else if V < 0 then (if 971 < upL (-V) then 971 else upL (-V)) else if V = 0 then 0 else upL V
theorem uM_0 : uM 0 = 0 := by unfold uM; rw [if_neg (by rw [tZ_le (Int.le_refl 0)]; decide), if_neg (by omega), if_pos rfl]
theorem uE_0 : uE 0 = 0 := by unfold uE; rw [if_neg (by rw [tZ_le (Int.le_refl 0)]; decide), if_neg (by omega), if_pos rfl]
theorem u_t {V : Int} (h : tZ V = 1) : uM V = 0 ∧ uE V = 0 := by unfold uM uE; rw [if_pos h, if_pos h]; exact ⟨rfl, rfl⟩
theorem u_p {V : Int} (h : tZ V = 0) (hs : 0 < V) : uM V = upM V ∧ uE V = upL V := by
  unfold uM uE; rw [if_neg (by omega), if_neg (by omega), if_neg (by omega), if_neg (by omega), if_neg (by omega), if_neg (by omega)]; exact ⟨rfl, rfl⟩
theorem u_n {V : Int} (hs : V < 0) : uM V = (if 971 < upL (-V) then -9007199254740991 else upM V) ∧ uE V = (if 971 < upL (-V) then 971 else upL (-V)) := by
  have := tZ_le (Int.le_of_lt hs)
  refine ⟨?_, ?_⟩
  · unfold uM; rw [if_neg (by omega)]
    by_cases q : 971 < upL (-V)
    · rw [if_pos ⟨hs, q⟩, if_pos q]
    · rw [if_neg (fun z => q z.2), if_neg q, if_neg (by omega)]
  · unfold uE; rw [if_neg (by omega), if_pos hs]
theorem dOk_0 : dOk 0 0 := by unfold dOk; omega
def po (V : Int) : Int := max 0 V
theorem po_b {V : Int} (h : -big7 < V ∧ V < big7) : -big7 < po V ∧ po V < big7 := by have := big7_pos; unfold po; omega
theorem upL_ge (V : Int) : -1074 ≤ upL V := by unfold upL; omega
theorem u_ok {V : Int} : dOk (uM V) (uE V) := by
  rcases tZ_01 V with z | z
  · rcases (show V < 0 ∨ V = 0 ∨ 0 < V by omega) with hs | hs | hs
    · obtain ⟨e1, e2⟩ := u_n hs
      rw [e1, e2]
      by_cases q : 971 < upL (-V)
      · rw [if_pos q, if_pos q]; unfold dOk; omega
      · rw [if_neg q, if_neg q]
        have h1 := up_lt (V := -V) (by omega)
        have h2 := upL_ge (-V)
        have e3 : upM V = -((-V) / 2 ^ (upL (-V) + 3400).toNat) := by unfold upM; rw [if_pos hs, show (V.natAbs : Int) = -V by omega]
        rw [e3]
        unfold dOk; omega
    · rw [hs, uM_0, uE_0]; exact dOk_0
    · obtain ⟨e1, e2⟩ := u_p z hs
      have h1 := up_lt hs
      have h2 := upL_ge V
      have e3 : upM V = V / 2 ^ (upL V + 3400).toNat + zP (V % 2 ^ (upL V + 3400).toNat ≠ 0) := by unfold upM; rw [if_neg (by omega)]
      have h3 := zP_01 (V % 2 ^ (upL V + 3400).toNat ≠ 0)
      have h4 : ¬ (971 < upL V ∨ upL V = 971 ∧ upM V = 9007199254740992) := fun q => tZ_0 z ⟨hs, q⟩
      rw [e1, e2]
      rw [← e3.symm] at h4
      have h5 : 0 ≤ upM V ∧ upM V ≤ 9007199254740992 := by rw [e3]; omega
      unfold dOk; omega
  · rw [(u_t z).1, (u_t z).2]; exact dOk_0
theorem sgI_q (V : Int) : (-1 ≤ sgI V ∧ sgI V ≤ 1) ∧ (sgI V < 0 ↔ V < 0) ∧ (0 < sgI V ↔ 0 < V) := by
  unfold sgI; split
  · omega
  · split <;> omega
/-- the greater of two doubles -/
def msM (m q m' q' : Int) : Int := if m * zQ q < m' * zQ q' then m' else m
def msE (m q m' q' : Int) : Int := if m * zQ q < m' * zQ q' then q' else q
theorem ms_t {m q m' q' : Int} (h : m * zQ q < m' * zQ q') : msM m q m' q' = m' ∧ msE m q m' q' = q' := ⟨if_pos h, if_pos h⟩
theorem ms_f {m q m' q' : Int} (h : ¬ (m * zQ q < m' * zQ q')) : msM m q m' q' = m ∧ msE m q m' q' = q := ⟨if_neg h, if_neg h⟩
theorem ms_ok {m q m' q' : Int} (h : dOk m q) (h' : dOk m' q') : dOk (msM m q m' q') (msE m q m' q') := by
  by_cases z : m * zQ q < m' * zQ q'
  · rw [(ms_t z).1, (ms_t z).2]; exact h'
  · rw [(ms_f z).1, (ms_f z).2]; exact h
theorem u_nn {V : Int} (h : 0 ≤ V) : 0 ≤ uM V := by
  rcases tZ_01 V with z | z
  · rcases (show V = 0 ∨ 0 < V by omega) with hs | hs
    · rw [hs, uM_0]; omega
    · rw [(u_p z hs).1]
      have h1 := up_lt hs
      have h3 := zP_01 (V % 2 ^ (upL V + 3400).toNat ≠ 0)
      unfold upM; rw [if_neg (by omega)]; omega
  · rw [(u_t z).1]; omega
theorem ms_0 {V : Int} (h : 0 ≤ V) : msM (uM V) (uE V) (uM 0) (uE 0) = uM V ∧ msE (uM V) (uE V) (uM 0) (uE 0) = uE V := by
  apply ms_f
  rw [uM_0, uE_0, Int.zero_mul]
  have := Int.mul_nonneg (u_nn h) (Int.le_of_lt (zQ_pos (uE V)))
  omega
theorem po_nn (V : Int) : 0 ≤ po V := by unfold po; omega
/-! bounds of sums -/
def bU : Nat := 2 ^ 5000
def Bu (n : Nat) (V : Int) : Prop := V.natAbs ≤ n * bU
theorem Bu.add {n m : Nat} {V W : Int} (h : Bu n V) (h' : Bu m W) : Bu (n + m) (V + W) := by
  unfold Bu at *
  rw [Nat.add_mul]
  omega
theorem Bu.neg {n : Nat} {V : Int} (h : Bu n V) : Bu n (-V) := by unfold Bu at *; omega
theorem Bu.zero (n : Nat) : Bu n 0 := Nat.zero_le _
theorem Bu.mono {n m : Nat} {V : Int} (h : Bu n V) (hn : n ≤ m) : Bu m V := Nat.le_trans h (Nat.mul_le_mul_right bU hn)
theorem Bu.su {F : Int → Int} {c : Nat} : ∀ n : Nat, (∀ j : Int, 0 ≤ j → j < (n : Int) → Bu c (F j)) → Bu (n * c) (su F n)
  | 0, _ => by rw [Nat.zero_mul]; exact Bu.zero 0
  | n + 1, h => by
    have h1 := Bu.su (F := F) n (fun j a b => h j a (by omega))
    have h2 := h (n : Int) (by omega) (by omega)
    have := h1.add h2
    rw [Nat.add_mul, Nat.one_mul]; exact this
theorem bU_big : ((1000000 * bU : Nat) : Int) < big7 := by
  have eb : ((bU : Nat) : Int) = 2 ^ 5000 := p2_nat 5000
  rw [Int.natCast_mul, eb]
  have e3 := p2_le (show 5000 + 21 ≤ 7039 by decide)
  rw [p2_add] at e3
  have hp := p2_pos 5000
  have e4 : (2 : Int) ^ 21 = 2097152 := rfl
  rw [e4] at e3
  show _ < (2 : Int) ^ 7039
  generalize (2 : Int) ^ 5000 = x at *
  generalize (2 : Int) ^ 7039 = y at *
  omega
theorem Bu.big {n : Nat} {V : Int} (h : Bu n V) (hn : n ≤ 1000000) : -big7 < V ∧ V < big7 := by
  have h1 := h.mono hn
  have h2 := bU_big
  unfold Bu at h1
  generalize 1000000 * bU = x at *
  omega
theorem Bu.u3 {l k1 q1 k2 q2 k3 q3 b : Int} (hl : l = 0 ∨ l = 1) (h1 : -4294967296 < k1 ∧ k1 < 4294967296) (h2 : -4294967296 < k2 ∧ k2 < 4294967296) (h3 : -4294967296 < k3 ∧ k3 < 4294967296) (hq : q1 + q2 + q3 + b ≤ 1500) : Bu 1 (U3 l k1 q1 k2 q2 k3 q3 b) := by
  unfold Bu U3
  rw [Int.natAbs_mul, Int.natAbs_mul, Int.natAbs_mul, Int.natAbs_mul, Nat.one_mul, Int.natAbs_pow]
  have e0 : (1 - 2 * l).natAbs = 1 := by rcases hl with rfl | rfl <;> rfl
  rw [e0, Nat.one_mul]
  have a := Nat.mul_le_mul (Nat.mul_le_mul (show k1.natAbs ≤ 2 ^ 32 by omega) (show k2.natAbs ≤ 2 ^ 32 by omega)) (show k3.natAbs ≤ 2 ^ 32 by omega)
  rw [← Nat.pow_add, ← Nat.pow_add] at a
  have b := Nat.mul_le_mul a (Nat.pow_le_pow_right (show 0 < (2 : Int).natAbs by decide) (show (q1 + q2 + q3 + b + 3400).toNat ≤ 4900 by omega))
  refine Nat.le_trans b ?_
  rw [show (2 : Int).natAbs = 2 from rfl, ← Nat.pow_add]
  exact Nat.pow_le_pow_right (by decide) (by decide)
theorem Bu.it {n : Nat} {P : Prop} [Decidable P] {x y : Int} (h : Bu n x) (h' : Bu n y) : Bu n (if P then x else y) := by
  split
  · exact h
  · exact h'

/-! the reference's figures, times 2 ^ 3400 -/
def mAc (M : MS) (i : Int) : Int := 0 + su (mA M i) M.cn.toNat
def mR (M : MS) (j : Int) : Int := 0 + U3 0 (M.kc j) (-3) 1 0 1 0 0 + su (mQ M j) M.cn.toNat + su (mY M j) M.rw.toNat
def mrL (M : MS) (i : Int) : Int := 0 + su (mA M i) M.cn.toNat + U3 1 (M.krl i) (-3) 1 0 1 0 0
def mrH (M : MS) (i : Int) : Int := 0 + su (mA M i) M.cn.toNat + U3 1 (M.krh i) (-3) 1 0 1 0 0
def mcL (M : MS) (j : Int) : Int := 0 + U3 0 (M.kl j) (-3) 1 0 1 0 0 + U3 1 (M.kx j) (M.xb j) 1 0 1 0 0
def mcH (M : MS) (j : Int) : Int := 0 + U3 0 (M.kx j) (M.xb j) 1 0 1 0 0 + U3 1 (M.kh j) (-3) 1 0 1 0 0
def xrL (M : MS) (i : Int) : Int := if M.rli i ≠ 0 then po (-(mrL M i)) else 0
def xrH (M : MS) (i : Int) : Int := if M.rhi i ≠ 0 then po (mrH M i) else 0
def xcL (M : MS) (j : Int) : Int := if M.li j ≠ 0 then po (mcL M j) else 0
def xcH (M : MS) (j : Int) : Int := if M.hi j ≠ 0 then po (mcH M j) else 0
def xd (M : MS) (j : Int) : Int := if 0 < mR M j ∧ M.li j = 0 then po (mR M j) else if mR M j < 0 ∧ M.hi j = 0 then po (-(mR M j)) else 0
def pvM (M : MS) (i : Int) : Int := if 0 < M.ky i ∧ M.rli i = 0 then M.ky i else if M.ky i < 0 ∧ M.rhi i = 0 then -M.ky i else 0
def pvE (M : MS) (i : Int) : Int := if 0 < M.ky i ∧ M.rli i = 0 then M.yb i else if M.ky i < 0 ∧ M.rhi i = 0 then M.yb i else 0
theorem B_A {M : MS} (hM : MI M) {i : Int} (hi : 0 ≤ i ∧ i < 12) : Bu 16 (su (mA M i) M.cn.toNat) := by
  have hcn := hM.cn
  refine (Bu.su (c := 1) M.cn.toNat (fun j h1 h2 => ?_)).mono (by omega)
  have k1 := hM.ka (16 * i + j) (by omega) (by omega)
  have k2 := hM.kx j (by omega) (by omega)
  have k3 := hM.xb j (by omega) (by omega)
  exact Bu.it (Bu.u3 (by omega) (by omega) (by omega) (by omega) (by omega)) (Bu.zero 1)
theorem B_rL {M : MS} (hM : MI M) {i : Int} (hi : 0 ≤ i ∧ i < 12) : Bu 100 (mrL M i) := by
  have k1 := hM.krl i (by omega) (by omega)
  exact (((Bu.zero 0).add (B_A hM hi)).add (Bu.u3 (by omega) (by omega) (by omega) (by omega) (by omega))).mono (by decide)
theorem B_rH {M : MS} (hM : MI M) {i : Int} (hi : 0 ≤ i ∧ i < 12) : Bu 100 (mrH M i) := by
  have k1 := hM.krh i (by omega) (by omega)
  exact (((Bu.zero 0).add (B_A hM hi)).add (Bu.u3 (by omega) (by omega) (by omega) (by omega) (by omega))).mono (by decide)
theorem B_cL {M : MS} (hM : MI M) {i : Int} (hi : 0 ≤ i ∧ i < 16) : Bu 100 (mcL M i) := by
  have k1 := hM.kl i (by omega) (by omega)
  have k2 := hM.kx i (by omega) (by omega)
  have k3 := hM.xb i (by omega) (by omega)
  exact (((Bu.zero 0).add (Bu.u3 (by omega) (by omega) (by omega) (by omega) (by omega))).add (Bu.u3 (by omega) (by omega) (by omega) (by omega) (by omega))).mono (by decide)
theorem B_cH {M : MS} (hM : MI M) {i : Int} (hi : 0 ≤ i ∧ i < 16) : Bu 100 (mcH M i) := by
  have k1 := hM.kh i (by omega) (by omega)
  have k2 := hM.kx i (by omega) (by omega)
  have k3 := hM.xb i (by omega) (by omega)
  exact (((Bu.zero 0).add (Bu.u3 (by omega) (by omega) (by omega) (by omega) (by omega))).add (Bu.u3 (by omega) (by omega) (by omega) (by omega) (by omega))).mono (by decide)
theorem B_R {M : MS} (hM : MI M) {j : Int} (hj : 0 ≤ j ∧ j < 16) : Bu 100 (mR M j) := by
  have hcn := hM.cn
  have hrw := hM.rw
  have k0 := hM.kc j (by omega) (by omega)
  have b1 : Bu 16 (su (mQ M j) M.cn.toNat) := by
    refine (Bu.su (c := 1) M.cn.toNat (fun i h1 h2 => ?_)).mono (by omega)
    have k1 := hM.kq (16 * i + j) (by omega) (by omega)
    have k2 := hM.kx i (by omega) (by omega)
    have k3 := hM.xb i (by omega) (by omega)
    exact Bu.it (Bu.u3 (by omega) (by omega) (by omega) (by omega) (by omega)) (Bu.zero 1)
  have b2 : Bu 12 (su (mY M j) M.rw.toNat) := by
    refine (Bu.su (c := 1) M.rw.toNat (fun i h1 h2 => ?_)).mono (by omega)
    have k1 := hM.ka (16 * i + j) (by omega) (by omega)
    have k2 := hM.ky i (by omega) (by omega)
    have k3 := hM.yb i (by omega) (by omega)
    exact Bu.it (Bu.u3 (by omega) (by omega) (by omega) (by omega) (by omega)) (Bu.zero 1)
  exact ((((Bu.zero 0).add (Bu.u3 (by omega) (by omega) (by omega) (by omega) (by omega))).add b1).add b2).mono (by decide)

theorem c_Mo_upwards (l : Launch) (D : va_G) (aC : Nat → ClassId) (b : Nat → Nat) (M : MS) (er p2 : Int) (her : 0 ≤ er ∧ er ≤ 3) (f f1 : Int → Int) (V : Int) (hf : SumOk f V) (hb7 : -big7 < V ∧ V < big7) : CT l D aC y_Mo_upwards (rd 1 23) [.ref (b 0)] [(b 18, eI aC 1200 f1), (b 0, .inr (6, [.int (iI er), .int (iI M.rw), .int (iI M.cn), .int (iI M.en), .int (iI M.pr), .double (dM M.ko (-3)), .ref (b 1), .ref (b 2), .ref (b 3), .ref (b 4), .ref (b 5), .ref (b 6), .ref (b 7), .ref (b 8), .ref (b 9), .ref (b 10), .ref (b 11), .ref (b 12), .ref (b 13), .ref (b 14), .ref (b 15), .int (iI p2), .ref (b 16), .ref (b 17), .ref (b 18), .ref (b 19), .ref (b 20), .ref (b 21), .ref (b 22)])), (b 16, eI aC 440 f)] (fun v w => v = some (.double (dM (uM V) (uE V))) ∧ ∃ g : Int → Int, w = [(b 18, eI aC 1200 g), (b 0, .inr (6, [.int (iI (eU er V)), .int (iI M.rw), .int (iI M.cn), .int (iI M.en), .int (iI M.pr), .double (dM M.ko (-3)), .ref (b 1), .ref (b 2), .ref (b 3), .ref (b 4), .ref (b 5), .ref (b 6), .ref (b 7), .ref (b 8), .ref (b 9), .ref (b 10), .ref (b 11), .ref (b 12), .ref (b 13), .ref (b 14), .ref (b 15), .int (iI p2), .ref (b 16), .ref (b 17), .ref (b 18), .ref (b 19), .ref (b 20), .ref (b 21), .ref (b 22)])), (b 16, eI aC 440 f)]) := by
  rcases (show 0 < V ∨ V < 0 ∨ V = 0 by omega) with hs | hs | hs
  · haveI : Decidable (tooU V) := Classical.propDecidable _
    have h := c_Mo_upwards_p l D aC b M er p2 her f f1 V hf hb7 hs
    have e1 : (if tooU V then dM 0 0 else dM (upM V) (upL V)) = dM (uM V) (uE V) := by
      by_cases q : tooU V
      · rw [if_pos q, (u_t (tZ_t q)).1, (u_t (tZ_t q)).2]
      · rw [if_neg q, (u_p (tZ_f q) hs).1, (u_p (tZ_f q) hs).2]
    have e2 : (if tooU V then fE er 1 3 else er) = eU er V := by
      by_cases q : tooU V
      · rw [if_pos q]; unfold eU; rw [tZ_t q]
      · rw [if_neg q]; unfold eU fE; rw [tZ_f q, if_neg (fun z => z.1 rfl)]
    rw [e1, e2] at h; exact h
  · have e1 : dM (uM V) (uE V) = (if 971 < upL (-V) then dM (-9007199254740991) 971 else dM (upM V) (upL (-V))) := by
      rw [(u_n hs).1, (u_n hs).2]
      by_cases q : 971 < upL (-V)
      · rw [if_pos q, if_pos q, if_pos q]
      · rw [if_neg q, if_neg q, if_neg q]
    rw [e1, eU_z (Int.le_of_lt hs)]
    exact c_Mo_upwards_n l D aC b M er p2 her f f1 V hf hb7 hs
  · have e1 : dM (uM V) (uE V) = dM 0 0 := by rw [hs, uM_0, uE_0]
    rw [e1, eU_z (by omega)]
    exact c_Mo_upwards_0 l D aC b M er p2 her f f1 V hf hb7 hs
set_option maxHeartbeats 4000000 in
set_option maxRecDepth 100000 in
theorem c_Mo_excess_1 (l : Launch) (D : va_G) (aC : Nat → ClassId) (b : Nat → Nat) (M : MS) (er p2 : Int) (her : 0 ≤ er ∧ er ≤ 3) (f f1 : Int → Int) (V : Int) (hf : SumOk f V) (hb7 : -big7 < V ∧ V < big7) : CT l D aC y_Mo_excess (rd 2 54) [.ref (b 0), .int (iI 1)] [(b 16, eI aC 440 f), (b 18, eI aC 1200 f1), (b 0, .inr (6, [.int (iI er), .int (iI M.rw), .int (iI M.cn), .int (iI M.en), .int (iI M.pr), .double (dM M.ko (-3)), .ref (b 1), .ref (b 2), .ref (b 3), .ref (b 4), .ref (b 5), .ref (b 6), .ref (b 7), .ref (b 8), .ref (b 9), .ref (b 10), .ref (b 11), .ref (b 12), .ref (b 13), .ref (b 14), .ref (b 15), .int (iI p2), .ref (b 16), .ref (b 17), .ref (b 18), .ref (b 19), .ref (b 20), .ref (b 21), .ref (b 22)]))] (fun v w => v = some (.double (dM (uM (po (-V))) (uE (po (-V))))) ∧ ∃ h g1 : Int → Int, w = [(b 16, eI aC 440 h), (b 18, eI aC 1200 g1), (b 0, .inr (6, [.int (iI (eU er (po (-V)))), .int (iI M.rw), .int (iI M.cn), .int (iI M.en), .int (iI M.pr), .double (dM M.ko (-3)), .ref (b 1), .ref (b 2), .ref (b 3), .ref (b 4), .ref (b 5), .ref (b 6), .ref (b 7), .ref (b 8), .ref (b 9), .ref (b 10), .ref (b 11), .ref (b 12), .ref (b 13), .ref (b 14), .ref (b 15), .int (iI p2), .ref (b 16), .ref (b 17), .ref (b 18), .ref (b 19), .ref (b 20), .ref (b 21), .ref (b 22)]))]) := by
  refine CT.of (cc := b_Mo_excess) (maxL := 3) (ret := (some .double)) (by decide +kernel) k_Mo_excess (Nat.le_of_ble_eq_true rfl) ?_
  intro p e s m below meth c Q S hr hlocks hQ hK hN hP hD hS ls hl
  obtain ⟨hx, hb, hml, hown, hts⟩ := id S
  have hl : lv_has ls 3 [(0, .ref (b 0)), (1, .int (iI 1))] := hl
  have hsg := sgI_q V
  refine lv_aload_n hx hb d_Mo_excess_0 rfl (lv_at hl 0 rfl) ?_
  refine y_callV1 (V := .int (iI (sgI V))) S (c_Mo_signOfSum l D aC b M er p2 f V hf (by omega)) t_Mo_152 (rm_ok (by decide) (by decide)) hK hN hP [0, 2] rfl 1 6 rfl rfl rfl hl.1 rfl (Nat.le_of_ble_eq_true rfl) d_Mo_excess_1 ⟨Nat.zero_le _, Nat.zero_le _⟩ ?_
  refine lv_istore_n (lv' := [(2, .int (iI (sgI V))), (0, .ref (b 0)), (1, .int (iI 1))]) hx hb d_Mo_excess_4 rfl hl (by decide) rfl (fun ls hl => ?_)
  refine lv_iload_n hx hb d_Mo_excess_5 rfl (lv_at hl 2 rfl) ?_
  refine x_if_eq (tgt := 16) hx hb d_Mo_excess_6 (by decide) (by decide) (fun c_6 => (by exfalso; omega)) (fun c_6 => ?_)
  refine lv_iload_n hx hb d_Mo_excess_9 rfl (lv_at hl 0 rfl) ?_
  refine x_if_lt (tgt := 22) hx hb d_Mo_excess_10 (by decide) (by omega) (fun c_10 => ?_) (fun c_10 => ?_)
  · refine lv_iload_n hx hb d_Mo_excess_22 rfl (lv_at hl 2 rfl) ?_
    refine x_if_eq (tgt := 30) hx hb d_Mo_excess_23 (by decide) (by decide) (fun c_23 => (by exfalso; omega)) (fun c_23 => ?_)
    refine lv_aload_n hx hb d_Mo_excess_26 rfl (lv_at hl 1 rfl) ?_
    refine x_callV0F S (c_Mo_negate l D aC b M er p2 f V hf) t_Mo_172 (rm_ok (by decide) (by decide)) hK hN hP hD hS [0] [2] rfl rfl (fun w9 hw => by obtain ⟨s1, rfl, hs1⟩ := hw; exact ⟨rfl, Nat.le_of_ble_eq_true rfl⟩) 1 6 rfl rfl rfl hl.1 rfl (Nat.le_of_ble_eq_true rfl) d_Mo_excess_27 ⟨Nat.zero_le _, Nat.zero_le _⟩ (fun w1 ws1 H locs e9 hw hP hD hS => ?_)
    obtain ⟨s1, rfl, hs1⟩ := hw
    have e9 : ws1 = [(b 16, eI aC 440 s1), (b 18, eI aC 1200 f1), (b 0, .inr (6, [.int (iI er), .int (iI M.rw), .int (iI M.cn), .int (iI M.en), .int (iI M.pr), .double (dM M.ko (-3)), .ref (b 1), .ref (b 2), .ref (b 3), .ref (b 4), .ref (b 5), .ref (b 6), .ref (b 7), .ref (b 8), .ref (b 9), .ref (b 10), .ref (b 11), .ref (b 12), .ref (b 13), .ref (b 14), .ref (b 15), .int (iI p2), .ref (b 16), .ref (b 17), .ref (b 18), .ref (b 19), .ref (b 20), .ref (b 21), .ref (b 22)]))] := e9
    subst e9
    refine lv_aload_n hx hb d_Mo_excess_30 rfl (lv_at hl 1 rfl) ?_
    refine x_callV1F (V := .double (dM (uM (-V)) (uE (-V)))) S (c_Mo_upwards l D aC b M er p2 (by omega) s1 f1 (-V) hs1 (by omega)) t_Mo_175 (rm_ok (by decide) (by decide)) hK hN hP hD hS [1, 2] [0] rfl rfl (fun w9 hw => by obtain ⟨g1_2, rfl⟩ := hw; exact ⟨rfl, Nat.le_of_ble_eq_true rfl⟩) 1 6 rfl rfl rfl hl.1 rfl (Nat.le_of_ble_eq_true rfl) d_Mo_excess_31 ⟨Nat.zero_le _, Nat.zero_le _⟩ (fun w1 ws1 H locs e9 hw hP hD hS => ?_)
    obtain ⟨g1_2, rfl⟩ := hw
    have e9 : ws1 = [(b 16, eI aC 440 s1), (b 18, eI aC 1200 g1_2), (b 0, .inr (6, [.int (iI (eU er (-V))), .int (iI M.rw), .int (iI M.cn), .int (iI M.en), .int (iI M.pr), .double (dM M.ko (-3)), .ref (b 1), .ref (b 2), .ref (b 3), .ref (b 4), .ref (b 5), .ref (b 6), .ref (b 7), .ref (b 8), .ref (b 9), .ref (b 10), .ref (b 11), .ref (b 12), .ref (b 13), .ref (b 14), .ref (b 15), .int (iI p2), .ref (b 16), .ref (b 17), .ref (b 18), .ref (b 19), .ref (b 20), .ref (b 21), .ref (b 22)]))] := e9
    subst e9
    have hu2 := eU_r (er := er) (V := -V) (by omega)
    exact x_dret hx hb hr hlocks hQ (⟨by rw [show po (-V) = -V by unfold po; omega], s1, g1_2, show [(b 16, eI aC 440 s1), (b 18, eI aC 1200 g1_2), (b 0, .inr (6, [.int (iI (eU er (-V))), .int (iI M.rw), .int (iI M.cn), .int (iI M.en), .int (iI M.pr), .double (dM M.ko (-3)), .ref (b 1), .ref (b 2), .ref (b 3), .ref (b 4), .ref (b 5), .ref (b 6), .ref (b 7), .ref (b 8), .ref (b 9), .ref (b 10), .ref (b 11), .ref (b 12), .ref (b 13), .ref (b 14), .ref (b 15), .int (iI p2), .ref (b 16), .ref (b 17), .ref (b 18), .ref (b 19), .ref (b 20), .ref (b 21), .ref (b 22)]))] = _ by rw [show po (-V) = -V by unfold po; omega]⟩) rfl hP hS d_Mo_excess_34
  · refine lv_goto (tgt := 20) hx hb d_Mo_excess_13 (by decide) ?_
    refine x_dconst0 hx hb d_Mo_excess_20 ?_
    exact x_dret hx hb hr hlocks hQ (⟨by rw [show po (-V) = 0 by unfold po; omega, uM_0, uE_0], f, f1, show [(b 16, eI aC 440 f), (b 18, eI aC 1200 f1), (b 0, .inr (6, [.int (iI er), .int (iI M.rw), .int (iI M.cn), .int (iI M.en), .int (iI M.pr), .double (dM M.ko (-3)), .ref (b 1), .ref (b 2), .ref (b 3), .ref (b 4), .ref (b 5), .ref (b 6), .ref (b 7), .ref (b 8), .ref (b 9), .ref (b 10), .ref (b 11), .ref (b 12), .ref (b 13), .ref (b 14), .ref (b 15), .int (iI p2), .ref (b 16), .ref (b 17), .ref (b 18), .ref (b 19), .ref (b 20), .ref (b 21), .ref (b 22)]))] = _ by rw [show po (-V) = 0 by unfold po; omega, eU_z (Int.le_refl 0)]⟩) rfl hP hS d_Mo_excess_21
set_option maxHeartbeats 4000000 in
set_option maxRecDepth 100000 in
theorem c_Mo_excess_0 (l : Launch) (D : va_G) (aC : Nat → ClassId) (b : Nat → Nat) (M : MS) (er p2 : Int) (her : 0 ≤ er ∧ er ≤ 3) (f f1 : Int → Int) (V : Int) (hf : SumOk f V) (hb7 : -big7 < V ∧ V < big7) : CT l D aC y_Mo_excess (rd 2 54) [.ref (b 0), .int (iI 0)] [(b 16, eI aC 440 f), (b 18, eI aC 1200 f1), (b 0, .inr (6, [.int (iI er), .int (iI M.rw), .int (iI M.cn), .int (iI M.en), .int (iI M.pr), .double (dM M.ko (-3)), .ref (b 1), .ref (b 2), .ref (b 3), .ref (b 4), .ref (b 5), .ref (b 6), .ref (b 7), .ref (b 8), .ref (b 9), .ref (b 10), .ref (b 11), .ref (b 12), .ref (b 13), .ref (b 14), .ref (b 15), .int (iI p2), .ref (b 16), .ref (b 17), .ref (b 18), .ref (b 19), .ref (b 20), .ref (b 21), .ref (b 22)]))] (fun v w => v = some (.double (dM (uM (po V)) (uE (po V)))) ∧ ∃ h g1 : Int → Int, w = [(b 16, eI aC 440 h), (b 18, eI aC 1200 g1), (b 0, .inr (6, [.int (iI (eU er (po V))), .int (iI M.rw), .int (iI M.cn), .int (iI M.en), .int (iI M.pr), .double (dM M.ko (-3)), .ref (b 1), .ref (b 2), .ref (b 3), .ref (b 4), .ref (b 5), .ref (b 6), .ref (b 7), .ref (b 8), .ref (b 9), .ref (b 10), .ref (b 11), .ref (b 12), .ref (b 13), .ref (b 14), .ref (b 15), .int (iI p2), .ref (b 16), .ref (b 17), .ref (b 18), .ref (b 19), .ref (b 20), .ref (b 21), .ref (b 22)]))]) := by
  refine CT.of (cc := b_Mo_excess) (maxL := 3) (ret := (some .double)) (by decide +kernel) k_Mo_excess (Nat.le_of_ble_eq_true rfl) ?_
  intro p e s m below meth c Q S hr hlocks hQ hK hN hP hD hS ls hl
  obtain ⟨hx, hb, hml, hown, hts⟩ := id S
  have hl : lv_has ls 3 [(0, .ref (b 0)), (1, .int (iI 0))] := hl
  have hsg := sgI_q V
  refine lv_aload_n hx hb d_Mo_excess_0 rfl (lv_at hl 0 rfl) ?_
  refine y_callV1 (V := .int (iI (sgI V))) S (c_Mo_signOfSum l D aC b M er p2 f V hf (by omega)) t_Mo_152 (rm_ok (by decide) (by decide)) hK hN hP [0, 2] rfl 1 6 rfl rfl rfl hl.1 rfl (Nat.le_of_ble_eq_true rfl) d_Mo_excess_1 ⟨Nat.zero_le _, Nat.zero_le _⟩ ?_
  refine lv_istore_n (lv' := [(2, .int (iI (sgI V))), (0, .ref (b 0)), (1, .int (iI 0))]) hx hb d_Mo_excess_4 rfl hl (by decide) rfl (fun ls hl => ?_)
  refine lv_iload_n hx hb d_Mo_excess_5 rfl (lv_at hl 2 rfl) ?_
  refine x_if_eq (tgt := 16) hx hb d_Mo_excess_6 (by decide) (by decide) (fun c_6 => ?_) (fun c_6 => (by exfalso; omega))
  refine lv_iload_n hx hb d_Mo_excess_16 rfl (lv_at hl 0 rfl) ?_
  refine x_if_gt (tgt := 22) hx hb d_Mo_excess_17 (by decide) (by omega) (fun c_17 => ?_) (fun c_17 => ?_)
  · refine lv_iload_n hx hb d_Mo_excess_22 rfl (lv_at hl 2 rfl) ?_
    refine x_if_eq (tgt := 30) hx hb d_Mo_excess_23 (by decide) (by decide) (fun c_23 => ?_) (fun c_23 => (by exfalso; omega))
    refine lv_aload_n hx hb d_Mo_excess_30 rfl (lv_at hl 1 rfl) ?_
    refine x_callV1F (V := .double (dM (uM V) (uE V))) S (c_Mo_upwards l D aC b M er p2 (by omega) f f1 V hf (by omega)) t_Mo_175 (rm_ok (by decide) (by decide)) hK hN hP hD hS [1, 2] [0] rfl rfl (fun w9 hw => by obtain ⟨g1_1, rfl⟩ := hw; exact ⟨rfl, Nat.le_of_ble_eq_true rfl⟩) 1 6 rfl rfl rfl hl.1 rfl (Nat.le_of_ble_eq_true rfl) d_Mo_excess_31 ⟨Nat.zero_le _, Nat.zero_le _⟩ (fun w1 ws1 H locs e9 hw hP hD hS => ?_)
    obtain ⟨g1_1, rfl⟩ := hw
    have e9 : ws1 = [(b 16, eI aC 440 f), (b 18, eI aC 1200 g1_1), (b 0, .inr (6, [.int (iI (eU er V)), .int (iI M.rw), .int (iI M.cn), .int (iI M.en), .int (iI M.pr), .double (dM M.ko (-3)), .ref (b 1), .ref (b 2), .ref (b 3), .ref (b 4), .ref (b 5), .ref (b 6), .ref (b 7), .ref (b 8), .ref (b 9), .ref (b 10), .ref (b 11), .ref (b 12), .ref (b 13), .ref (b 14), .ref (b 15), .int (iI p2), .ref (b 16), .ref (b 17), .ref (b 18), .ref (b 19), .ref (b 20), .ref (b 21), .ref (b 22)]))] := e9
    subst e9
    have hu1 := eU_r (er := er) (V := V) (by omega)
    exact x_dret hx hb hr hlocks hQ (⟨by rw [show po V = V by unfold po; omega], f, g1_1, show [(b 16, eI aC 440 f), (b 18, eI aC 1200 g1_1), (b 0, .inr (6, [.int (iI (eU er V)), .int (iI M.rw), .int (iI M.cn), .int (iI M.en), .int (iI M.pr), .double (dM M.ko (-3)), .ref (b 1), .ref (b 2), .ref (b 3), .ref (b 4), .ref (b 5), .ref (b 6), .ref (b 7), .ref (b 8), .ref (b 9), .ref (b 10), .ref (b 11), .ref (b 12), .ref (b 13), .ref (b 14), .ref (b 15), .int (iI p2), .ref (b 16), .ref (b 17), .ref (b 18), .ref (b 19), .ref (b 20), .ref (b 21), .ref (b 22)]))] = _ by rw [show po V = V by unfold po; omega]⟩) rfl hP hS d_Mo_excess_34
  · refine x_dconst0 hx hb d_Mo_excess_20 ?_
    exact x_dret hx hb hr hlocks hQ (⟨by rw [show po V = 0 by unfold po; omega, uM_0, uE_0], f, f1, show [(b 16, eI aC 440 f), (b 18, eI aC 1200 f1), (b 0, .inr (6, [.int (iI er), .int (iI M.rw), .int (iI M.cn), .int (iI M.en), .int (iI M.pr), .double (dM M.ko (-3)), .ref (b 1), .ref (b 2), .ref (b 3), .ref (b 4), .ref (b 5), .ref (b 6), .ref (b 7), .ref (b 8), .ref (b 9), .ref (b 10), .ref (b 11), .ref (b 12), .ref (b 13), .ref (b 14), .ref (b 15), .int (iI p2), .ref (b 16), .ref (b 17), .ref (b 18), .ref (b 19), .ref (b 20), .ref (b 21), .ref (b 22)]))] = _ by rw [show po V = 0 by unfold po; omega, eU_z (Int.le_refl 0)]⟩) rfl hP hS d_Mo_excess_21
set_option maxHeartbeats 4000000 in
set_option maxRecDepth 100000 in
theorem c_Mo_rowFault (l : Launch) (D : va_G) (aC : Nat → ClassId) (b : Nat → Nat) (M : MS) (hM : MI M) (er p2 : Int) (her : 0 ≤ er ∧ er ≤ 3) (f f1 f2 f3 f4 f5 : Int → Int) (i : Int) (hi : 0 ≤ i ∧ i < 12) : CT l D aC y_Mo_rowFault (rd 4 119) [.ref (b 0), .int (iI i)] [(b 16, eI aC 440 f), (b 18, eI aC 1200 f1), (b 19, eI aC 1200 f2), (b 20, eI aC 1200 f3), (b 21, eI aC 1200 f4), (b 22, eI aC 1200 f5), (b 0, .inr (6, [.int (iI er), .int (iI M.rw), .int (iI M.cn), .int (iI M.en), .int (iI M.pr), .double (dM M.ko (-3)), .ref (b 1), .ref (b 2), .ref (b 3), .ref (b 4), .ref (b 5), .ref (b 6), .ref (b 7), .ref (b 8), .ref (b 9), .ref (b 10), .ref (b 11), .ref (b 12), .ref (b 13), .ref (b 14), .ref (b 15), .int (iI p2), .ref (b 16), .ref (b 17), .ref (b 18), .ref (b 19), .ref (b 20), .ref (b 21), .ref (b 22)])), (b 1, eD aC 192 (dA M.ka c3)), (b 6, eD aC 12 (dA M.krl c3)), (b 7, eD aC 12 (dA M.krh c3)), (b 8, eD aC 16 (dA M.kx M.xb)), (b 10, eZ aC 192 M.ai), (b 14, eZ aC 12 M.rli), (b 15, eZ aC 12 M.rhi)] (fun v w => v = some (.double (dM (msM (uM (xrL M i)) (uE (xrL M i)) (uM (xrH M i)) (uE (xrH M i))) (msE (uM (xrL M i)) (uE (xrL M i)) (uM (xrH M i)) (uE (xrH M i))))) ∧ ∃ (h g1 g2 g3 g4 g5 : Int → Int) (p2' : Int), w = [(b 16, eI aC 440 h), (b 18, eI aC 1200 g1), (b 19, eI aC 1200 g2), (b 20, eI aC 1200 g3), (b 21, eI aC 1200 g4), (b 22, eI aC 1200 g5), (b 0, .inr (6, [.int (iI (eU (eU er (xrL M i)) (xrH M i))), .int (iI M.rw), .int (iI M.cn), .int (iI M.en), .int (iI M.pr), .double (dM M.ko (-3)), .ref (b 1), .ref (b 2), .ref (b 3), .ref (b 4), .ref (b 5), .ref (b 6), .ref (b 7), .ref (b 8), .ref (b 9), .ref (b 10), .ref (b 11), .ref (b 12), .ref (b 13), .ref (b 14), .ref (b 15), .int (iI p2'), .ref (b 16), .ref (b 17), .ref (b 18), .ref (b 19), .ref (b 20), .ref (b 21), .ref (b 22)])), (b 1, eD aC 192 (dA M.ka c3)), (b 6, eD aC 12 (dA M.krl c3)), (b 7, eD aC 12 (dA M.krh c3)), (b 8, eD aC 16 (dA M.kx M.xb)), (b 10, eZ aC 192 M.ai), (b 14, eZ aC 12 M.rli), (b 15, eZ aC 12 M.rhi)]) := by
  refine CT.of (cc := b_Mo_rowFault) (maxL := 6) (ret := (some .double)) (by decide +kernel) k_Mo_rowFault (Nat.le_of_ble_eq_true rfl) ?_
  intro p e s m below meth c Q S hr hlocks hQ hK hN hP hD hS ls hl
  obtain ⟨hx, hb, hml, hown, hts⟩ := id S
  have hl : lv_has ls 6 [(0, .ref (b 0)), (1, .int (iI i))] := hl
  have hrw := hM.rw
  have hcn := hM.cn
  refine x_dconst0 hx hb d_Mo_rowFault_0 ?_
  refine lv_dstore_n (lv' := [(2, .double (dM 0 0)), (0, .ref (b 0)), (1, .int (iI i))]) hx hb d_Mo_rowFault_1 rfl hl (by decide) rfl (fun ls hl => ?_)
  refine lv_aload_n hx hb d_Mo_rowFault_2 rfl (lv_at hl 1 rfl) ?_
  refine va_get (D := D) (ci := 6) (v := .ref (b 14)) (C := R_Mo) (T := F_Mo) (N := 29) hx hb hts i_Mo hown hK hP 6 rfl rfl 19 (by decide) (hts _ wf_Mo_50) (fun _ h9 => h9) rfl d_Mo_rowFault_3 ?_
  refine lv_iload_n hx hb d_Mo_rowFault_6 rfl (lv_at hl 2 rfl) ?_
  have hz1 := hM.rli i (by omega) (by omega)
  refine x_zald hx hb hK hP 12 rfl (by omega) (by decide) d_Mo_rowFault_7 ?_
  refine x_if_eq (tgt := 36) hx hb d_Mo_rowFault_8 (by decide) (by omega) (fun c_8 => ?_) (fun c_8 => ?_)
  · refine lv_aload_n hx hb d_Mo_rowFault_36 rfl (lv_at hl 1 rfl) ?_
    refine va_get (D := D) (ci := 6) (v := .ref (b 15)) (C := R_Mo) (T := F_Mo) (N := 29) hx hb hts i_Mo hown hK hP 6 rfl rfl 20 (by decide) (hts _ wf_Mo_53) (fun _ h9 => h9) rfl d_Mo_rowFault_37 ?_
    refine lv_iload_n hx hb d_Mo_rowFault_40 rfl (lv_at hl 2 rfl) ?_
    have hz2 := hM.rhi i (by omega) (by omega)
    refine x_zald hx hb hK hP 13 rfl (by omega) (by decide) d_Mo_rowFault_41 ?_
    refine x_if_eq (tgt := 81) hx hb d_Mo_rowFault_42 (by decide) (by omega) (fun c_42 => ?_) (fun c_42 => ?_)
    · refine lv_dload_n hx hb d_Mo_rowFault_81 rfl (lv_at hl 0 rfl) ?_
      have h1x : xrL M i = _ := if_neg (fun z => z c_8)
      have h2x : xrH M i = _ := if_neg (fun z => z c_42)
      have hw9 : [(b 16, eI aC 440 f), (b 18, eI aC 1200 f1), (b 19, eI aC 1200 f2), (b 20, eI aC 1200 f3), (b 21, eI aC 1200 f4), (b 22, eI aC 1200 f5), (b 0, .inr (6, [.int (iI er), .int (iI M.rw), .int (iI M.cn), .int (iI M.en), .int (iI M.pr), .double (dM M.ko (-3)), .ref (b 1), .ref (b 2), .ref (b 3), .ref (b 4), .ref (b 5), .ref (b 6), .ref (b 7), .ref (b 8), .ref (b 9), .ref (b 10), .ref (b 11), .ref (b 12), .ref (b 13), .ref (b 14), .ref (b 15), .int (iI p2), .ref (b 16), .ref (b 17), .ref (b 18), .ref (b 19), .ref (b 20), .ref (b 21), .ref (b 22)])), (b 1, eD aC 192 (dA M.ka c3)), (b 6, eD aC 12 (dA M.krl c3)), (b 7, eD aC 12 (dA M.krh c3)), (b 8, eD aC 16 (dA M.kx M.xb)), (b 10, eZ aC 192 M.ai), (b 14, eZ aC 12 M.rli), (b 15, eZ aC 12 M.rhi)] = [(b 16, eI aC 440 f), (b 18, eI aC 1200 f1), (b 19, eI aC 1200 f2), (b 20, eI aC 1200 f3), (b 21, eI aC 1200 f4), (b 22, eI aC 1200 f5), (b 0, .inr (6, [.int (iI (eU (eU er (xrL M i)) (xrH M i))), .int (iI M.rw), .int (iI M.cn), .int (iI M.en), .int (iI M.pr), .double (dM M.ko (-3)), .ref (b 1), .ref (b 2), .ref (b 3), .ref (b 4), .ref (b 5), .ref (b 6), .ref (b 7), .ref (b 8), .ref (b 9), .ref (b 10), .ref (b 11), .ref (b 12), .ref (b 13), .ref (b 14), .ref (b 15), .int (iI p2), .ref (b 16), .ref (b 17), .ref (b 18), .ref (b 19), .ref (b 20), .ref (b 21), .ref (b 22)])), (b 1, eD aC 192 (dA M.ka c3)), (b 6, eD aC 12 (dA M.krl c3)), (b 7, eD aC 12 (dA M.krh c3)), (b 8, eD aC 16 (dA M.kx M.xb)), (b 10, eZ aC 192 M.ai), (b 14, eZ aC 12 M.rli), (b 15, eZ aC 12 M.rhi)] := by rw [h1x, h2x, eU_z (Int.le_refl 0), eU_z (Int.le_refl 0)] <;> rfl
      exact x_dret hx hb hr hlocks hQ (⟨by rw [h2x, (ms_0 (V := xrL M i) (by rw [h1x]; exact Int.le_refl 0)).1, (ms_0 (V := xrL M i) (by rw [h1x]; exact Int.le_refl 0)).2, h1x, uM_0, uE_0], f, f1, f2, f3, f4, f5, p2, hw9⟩) rfl hP hS d_Mo_rowFault_82
    · refine lv_aload_n hx hb d_Mo_rowFault_45 rfl (lv_at hl 1 rfl) ?_
      refine lv_iload_n hx hb d_Mo_rowFault_46 rfl (lv_at hl 2 rfl) ?_
      refine x_callV0F S (c_Mo_activity l D aC b M hM er p2 f f1 f2 f3 f4 f5 i (by omega)) t_Mo_179 (rm_ok (by decide) (by decide)) hK hN hP hD hS [0, 1, 2, 3, 4, 5, 6] [7, 10, 11] rfl (by decide +kernel) (fun w9 hw => by obtain ⟨s1, g1_1, g2_1, g3_1, g4_1, g5_1, p2_1, rfl, hs1⟩ := hw; exact ⟨rfl, Nat.le_of_ble_eq_true rfl⟩) 6 6 rfl rfl rfl hl.1 rfl (Nat.le_of_ble_eq_true rfl) d_Mo_rowFault_47 ⟨Nat.zero_le _, Nat.zero_le _⟩ (fun w1 ws1 H locs e9 hw hP hD hS => ?_)
      obtain ⟨s1, g1_1, g2_1, g3_1, g4_1, g5_1, p2_1, rfl, hs1⟩ := hw
      have e9 : ws1 = [(b 16, eI aC 440 s1), (b 18, eI aC 1200 g1_1), (b 19, eI aC 1200 g2_1), (b 20, eI aC 1200 g3_1), (b 21, eI aC 1200 g4_1), (b 22, eI aC 1200 g5_1), (b 0, .inr (6, [.int (iI er), .int (iI M.rw), .int (iI M.cn), .int (iI M.en), .int (iI M.pr), .double (dM M.ko (-3)), .ref (b 1), .ref (b 2), .ref (b 3), .ref (b 4), .ref (b 5), .ref (b 6), .ref (b 7), .ref (b 8), .ref (b 9), .ref (b 10), .ref (b 11), .ref (b 12), .ref (b 13), .ref (b 14), .ref (b 15), .int (iI p2_1), .ref (b 16), .ref (b 17), .ref (b 18), .ref (b 19), .ref (b 20), .ref (b 21), .ref (b 22)])), (b 1, eD aC 192 (dA M.ka c3)), (b 6, eD aC 12 (dA M.krl c3)), (b 7, eD aC 12 (dA M.krh c3)), (b 8, eD aC 16 (dA M.kx M.xb)), (b 10, eZ aC 192 M.ai), (b 14, eZ aC 12 M.rli), (b 15, eZ aC 12 M.rhi)] := e9
      subst e9
      refine lv_aload_n hx hb d_Mo_rowFault_50 rfl (lv_at hl 1 rfl) ?_
      refine lv_aload_n hx hb d_Mo_rowFault_51 rfl (lv_at hl 1 rfl) ?_
      refine va_get (D := D) (ci := 6) (v := .ref (b 7)) (C := R_Mo) (T := F_Mo) (N := 29) hx hb hts i_Mo hown hK hP 6 rfl rfl 12 (by decide) (hts _ wf_Mo_28) (fun _ h9 => h9) rfl d_Mo_rowFault_52 ?_
      refine lv_iload_n hx hb d_Mo_rowFault_55 rfl (lv_at hl 2 rfl) ?_
      have hkh := hM.krh i (by omega) (by omega)
      refine x_dald hx hb hK hP 9 rfl (by omega) (by decide) d_Mo_rowFault_56 ?_
      refine x_topd _ _ (M.krh i) (-3) rfl ?_
      refine x_dconst1 hx hb d_Mo_rowFault_57 ?_
      refine x_dconst1 hx hb d_Mo_rowFault_58 ?_
      refine lv_iconst (v := iI 0) hx hb d_Mo_rowFault_59 rfl ?_
      refine lv_iconst (v := iI 1) hx hb d_Mo_rowFault_60 rfl ?_
      refine x_callV0F S (c_Mo_add l D aC b M er p2_1 s1 g1_1 g2_1 g3_1 g4_1 g5_1 (M.krh i) (-3) 1 0 1 0 0 1 (0 + su (mA M i) M.cn.toNat) (by omega) (by omega) (by omega) (by omega) (by omega) (by omega) (by omega) (by omega) hs1 (by omega)) t_Mo_168 (rm_ok (by decide) (by decide)) hK hN hP hD hS [0, 1, 2, 3, 4, 5, 6] [] rfl rfl (fun w9 hw => by obtain ⟨s2, g1_2, g2_2, g3_2, g4_2, g5_2, p2_2, rfl, hs2⟩ := hw; exact ⟨rfl, Nat.le_of_ble_eq_true rfl⟩) 6 6 rfl rfl rfl hl.1 rfl (Nat.le_of_ble_eq_true rfl) d_Mo_rowFault_61 ⟨Nat.zero_le _, Nat.zero_le _⟩ (fun w1 ws1 H locs e9 hw hP hD hS => ?_)
      obtain ⟨s2, g1_2, g2_2, g3_2, g4_2, g5_2, p2_2, rfl, hs2⟩ := hw
      have e9 : ws1 = [(b 16, eI aC 440 s2), (b 18, eI aC 1200 g1_2), (b 19, eI aC 1200 g2_2), (b 20, eI aC 1200 g3_2), (b 21, eI aC 1200 g4_2), (b 22, eI aC 1200 g5_2), (b 0, .inr (6, [.int (iI er), .int (iI M.rw), .int (iI M.cn), .int (iI M.en), .int (iI M.pr), .double (dM M.ko (-3)), .ref (b 1), .ref (b 2), .ref (b 3), .ref (b 4), .ref (b 5), .ref (b 6), .ref (b 7), .ref (b 8), .ref (b 9), .ref (b 10), .ref (b 11), .ref (b 12), .ref (b 13), .ref (b 14), .ref (b 15), .int (iI p2_2), .ref (b 16), .ref (b 17), .ref (b 18), .ref (b 19), .ref (b 20), .ref (b 21), .ref (b 22)])), (b 1, eD aC 192 (dA M.ka c3)), (b 6, eD aC 12 (dA M.krl c3)), (b 7, eD aC 12 (dA M.krh c3)), (b 8, eD aC 16 (dA M.kx M.xb)), (b 10, eZ aC 192 M.ai), (b 14, eZ aC 12 M.rli), (b 15, eZ aC 12 M.rhi)] := e9
      subst e9
      refine lv_aload_n hx hb d_Mo_rowFault_64 rfl (lv_at hl 1 rfl) ?_
      refine lv_iconst (v := iI 0) hx hb d_Mo_rowFault_65 rfl ?_
      refine x_callV1F (V := .double (dM (uM (po (0 + su (mA M i) M.cn.toNat + U3 1 (M.krh i) (-3) 1 0 1 0 0))) (uE (po (0 + su (mA M i) M.cn.toNat + U3 1 (M.krh i) (-3) 1 0 1 0 0))))) S (c_Mo_excess_0 l D aC b M er p2_2 (by omega) s2 g1_2 (0 + su (mA M i) M.cn.toNat + U3 1 (M.krh i) (-3) 1 0 1 0 0) hs2 (by first | exact (B_rL hM (i := i) (by omega)).big (by decide) | exact (B_rH hM (i := i) (by omega)).big (by decide))) t_Mo_183 (rm_ok (by decide) (by decide)) hK hN hP hD hS [0, 1, 6] [] rfl rfl (fun w9 hw => by obtain ⟨s3, g1_3, rfl⟩ := hw; exact ⟨rfl, Nat.le_of_ble_eq_true rfl⟩) 2 6 rfl rfl rfl hl.1 rfl (Nat.le_of_ble_eq_true rfl) d_Mo_rowFault_66 ⟨Nat.zero_le _, Nat.zero_le _⟩ (fun w1 ws1 H locs e9 hw hP hD hS => ?_)
      obtain ⟨s3, g1_3, rfl⟩ := hw
      have e9 : ws1 = [(b 16, eI aC 440 s3), (b 18, eI aC 1200 g1_3), (b 19, eI aC 1200 g2_2), (b 20, eI aC 1200 g3_2), (b 21, eI aC 1200 g4_2), (b 22, eI aC 1200 g5_2), (b 0, .inr (6, [.int (iI (eU er (po (0 + su (mA M i) M.cn.toNat + U3 1 (M.krh i) (-3) 1 0 1 0 0)))), .int (iI M.rw), .int (iI M.cn), .int (iI M.en), .int (iI M.pr), .double (dM M.ko (-3)), .ref (b 1), .ref (b 2), .ref (b 3), .ref (b 4), .ref (b 5), .ref (b 6), .ref (b 7), .ref (b 8), .ref (b 9), .ref (b 10), .ref (b 11), .ref (b 12), .ref (b 13), .ref (b 14), .ref (b 15), .int (iI p2_2), .ref (b 16), .ref (b 17), .ref (b 18), .ref (b 19), .ref (b 20), .ref (b 21), .ref (b 22)])), (b 1, eD aC 192 (dA M.ka c3)), (b 6, eD aC 12 (dA M.krl c3)), (b 7, eD aC 12 (dA M.krh c3)), (b 8, eD aC 16 (dA M.kx M.xb)), (b 10, eZ aC 192 M.ai), (b 14, eZ aC 12 M.rli), (b 15, eZ aC 12 M.rhi)] := e9
      subst e9
      have hu3 := eU_r (er := er) (V := po (0 + su (mA M i) M.cn.toNat + U3 1 (M.krh i) (-3) 1 0 1 0 0)) (by omega)
      have hok3 := u_ok (V := po (0 + su (mA M i) M.cn.toNat + U3 1 (M.krh i) (-3) 1 0 1 0 0))
      refine lv_dstore (lv' := [(4, .double (dM (uM (po (0 + su (mA M i) M.cn.toNat + U3 1 (M.krh i) (-3) 1 0 1 0 0))) (uE (po (0 + su (mA M i) M.cn.toNat + U3 1 (M.krh i) (-3) 1 0 1 0 0))))), (2, .double (dM 0 0)), (0, .ref (b 0)), (1, .int (iI i))]) hx hb d_Mo_rowFault_69 hl (by decide) rfl (fun ls hl => ?_)
      refine lv_dload hx hb d_Mo_rowFault_71 (lv_at hl 0 rfl) ?_
      refine lv_dload_n hx hb d_Mo_rowFault_73 rfl (lv_at hl 1 rfl) ?_
      refine x_dcmp_le (tgt := 81) hx hb d_Mo_rowFault_74 d_Mo_rowFault_75 (by decide) (by first | assumption | exact dOk_0) (by first | assumption | exact dOk_0) (fun c_74 => ?_) (fun c_74 => ?_)
      · refine lv_dload_n hx hb d_Mo_rowFault_81 rfl (lv_at hl 1 rfl) ?_
        have h1x : xrL M i = _ := if_neg (fun z => z c_8)
        have h2x : xrH M i = _ := if_pos c_42
        have hw9 : [(b 16, eI aC 440 s3), (b 18, eI aC 1200 g1_3), (b 19, eI aC 1200 g2_2), (b 20, eI aC 1200 g3_2), (b 21, eI aC 1200 g4_2), (b 22, eI aC 1200 g5_2), (b 0, .inr (6, [.int (iI (eU er (po (0 + su (mA M i) M.cn.toNat + U3 1 (M.krh i) (-3) 1 0 1 0 0)))), .int (iI M.rw), .int (iI M.cn), .int (iI M.en), .int (iI M.pr), .double (dM M.ko (-3)), .ref (b 1), .ref (b 2), .ref (b 3), .ref (b 4), .ref (b 5), .ref (b 6), .ref (b 7), .ref (b 8), .ref (b 9), .ref (b 10), .ref (b 11), .ref (b 12), .ref (b 13), .ref (b 14), .ref (b 15), .int (iI p2_2), .ref (b 16), .ref (b 17), .ref (b 18), .ref (b 19), .ref (b 20), .ref (b 21), .ref (b 22)])), (b 1, eD aC 192 (dA M.ka c3)), (b 6, eD aC 12 (dA M.krl c3)), (b 7, eD aC 12 (dA M.krh c3)), (b 8, eD aC 16 (dA M.kx M.xb)), (b 10, eZ aC 192 M.ai), (b 14, eZ aC 12 M.rli), (b 15, eZ aC 12 M.rhi)] = [(b 16, eI aC 440 s3), (b 18, eI aC 1200 g1_3), (b 19, eI aC 1200 g2_2), (b 20, eI aC 1200 g3_2), (b 21, eI aC 1200 g4_2), (b 22, eI aC 1200 g5_2), (b 0, .inr (6, [.int (iI (eU (eU er (xrL M i)) (xrH M i))), .int (iI M.rw), .int (iI M.cn), .int (iI M.en), .int (iI M.pr), .double (dM M.ko (-3)), .ref (b 1), .ref (b 2), .ref (b 3), .ref (b 4), .ref (b 5), .ref (b 6), .ref (b 7), .ref (b 8), .ref (b 9), .ref (b 10), .ref (b 11), .ref (b 12), .ref (b 13), .ref (b 14), .ref (b 15), .int (iI p2_2), .ref (b 16), .ref (b 17), .ref (b 18), .ref (b 19), .ref (b 20), .ref (b 21), .ref (b 22)])), (b 1, eD aC 192 (dA M.ka c3)), (b 6, eD aC 12 (dA M.krl c3)), (b 7, eD aC 12 (dA M.krh c3)), (b 8, eD aC 16 (dA M.kx M.xb)), (b 10, eZ aC 192 M.ai), (b 14, eZ aC 12 M.rli), (b 15, eZ aC 12 M.rhi)] := by rw [h1x, h2x, eU_z (V := 0) (Int.le_refl 0)] <;> rfl
        exact x_dret hx hb hr hlocks hQ (⟨by rw [h1x, h2x, uM_0, uE_0]; have q9 := ms_f (fun z => absurd (Int.lt_of_lt_of_le z c_74) (Int.lt_irrefl _)); exact congrArg some (congrArg Value.double (congr (congrArg dM q9.1.symm) q9.2.symm)), s3, g1_3, g2_2, g3_2, g4_2, g5_2, p2_2, hw9⟩) rfl hP hS d_Mo_rowFault_82
      · refine lv_dload hx hb d_Mo_rowFault_78 (lv_at hl 0 rfl) ?_
        refine lv_dstore_n (lv' := [(2, .double (dM (uM (po (0 + su (mA M i) M.cn.toNat + U3 1 (M.krh i) (-3) 1 0 1 0 0))) (uE (po (0 + su (mA M i) M.cn.toNat + U3 1 (M.krh i) (-3) 1 0 1 0 0))))), (4, .double (dM (uM (po (0 + su (mA M i) M.cn.toNat + U3 1 (M.krh i) (-3) 1 0 1 0 0))) (uE (po (0 + su (mA M i) M.cn.toNat + U3 1 (M.krh i) (-3) 1 0 1 0 0))))), (0, .ref (b 0)), (1, .int (iI i))]) hx hb d_Mo_rowFault_80 rfl hl (by decide) rfl (fun ls hl => ?_)
        refine lv_dload_n hx hb d_Mo_rowFault_81 rfl (lv_at hl 0 rfl) ?_
        have h1x : xrL M i = _ := if_neg (fun z => z c_8)
        have h2x : xrH M i = _ := if_pos c_42
        have hw9 : [(b 16, eI aC 440 s3), (b 18, eI aC 1200 g1_3), (b 19, eI aC 1200 g2_2), (b 20, eI aC 1200 g3_2), (b 21, eI aC 1200 g4_2), (b 22, eI aC 1200 g5_2), (b 0, .inr (6, [.int (iI (eU er (po (0 + su (mA M i) M.cn.toNat + U3 1 (M.krh i) (-3) 1 0 1 0 0)))), .int (iI M.rw), .int (iI M.cn), .int (iI M.en), .int (iI M.pr), .double (dM M.ko (-3)), .ref (b 1), .ref (b 2), .ref (b 3), .ref (b 4), .ref (b 5), .ref (b 6), .ref (b 7), .ref (b 8), .ref (b 9), .ref (b 10), .ref (b 11), .ref (b 12), .ref (b 13), .ref (b 14), .ref (b 15), .int (iI p2_2), .ref (b 16), .ref (b 17), .ref (b 18), .ref (b 19), .ref (b 20), .ref (b 21), .ref (b 22)])), (b 1, eD aC 192 (dA M.ka c3)), (b 6, eD aC 12 (dA M.krl c3)), (b 7, eD aC 12 (dA M.krh c3)), (b 8, eD aC 16 (dA M.kx M.xb)), (b 10, eZ aC 192 M.ai), (b 14, eZ aC 12 M.rli), (b 15, eZ aC 12 M.rhi)] = [(b 16, eI aC 440 s3), (b 18, eI aC 1200 g1_3), (b 19, eI aC 1200 g2_2), (b 20, eI aC 1200 g3_2), (b 21, eI aC 1200 g4_2), (b 22, eI aC 1200 g5_2), (b 0, .inr (6, [.int (iI (eU (eU er (xrL M i)) (xrH M i))), .int (iI M.rw), .int (iI M.cn), .int (iI M.en), .int (iI M.pr), .double (dM M.ko (-3)), .ref (b 1), .ref (b 2), .ref (b 3), .ref (b 4), .ref (b 5), .ref (b 6), .ref (b 7), .ref (b 8), .ref (b 9), .ref (b 10), .ref (b 11), .ref (b 12), .ref (b 13), .ref (b 14), .ref (b 15), .int (iI p2_2), .ref (b 16), .ref (b 17), .ref (b 18), .ref (b 19), .ref (b 20), .ref (b 21), .ref (b 22)])), (b 1, eD aC 192 (dA M.ka c3)), (b 6, eD aC 12 (dA M.krl c3)), (b 7, eD aC 12 (dA M.krh c3)), (b 8, eD aC 16 (dA M.kx M.xb)), (b 10, eZ aC 192 M.ai), (b 14, eZ aC 12 M.rli), (b 15, eZ aC 12 M.rhi)] := by rw [h1x, h2x, eU_z (V := 0) (Int.le_refl 0)] <;> rfl
        exact x_dret hx hb hr hlocks hQ (⟨by rw [h1x, h2x, uM_0, uE_0]; have q9 := ms_t (Int.lt_of_not_ge c_74); exact congrArg some (congrArg Value.double (congr (congrArg dM q9.1.symm) q9.2.symm)), s3, g1_3, g2_2, g3_2, g4_2, g5_2, p2_2, hw9⟩) rfl hP hS d_Mo_rowFault_82
  · refine lv_aload_n hx hb d_Mo_rowFault_11 rfl (lv_at hl 1 rfl) ?_
    refine lv_iload_n hx hb d_Mo_rowFault_12 rfl (lv_at hl 2 rfl) ?_
    refine x_callV0F S (c_Mo_activity l D aC b M hM er p2 f f1 f2 f3 f4 f5 i (by omega)) t_Mo_179 (rm_ok (by decide) (by decide)) hK hN hP hD hS [0, 1, 2, 3, 4, 5, 6] [7, 10, 11] rfl (by decide +kernel) (fun w9 hw => by obtain ⟨s4, g1_4, g2_4, g3_4, g4_4, g5_4, p2_4, rfl, hs4⟩ := hw; exact ⟨rfl, Nat.le_of_ble_eq_true rfl⟩) 6 6 rfl rfl rfl hl.1 rfl (Nat.le_of_ble_eq_true rfl) d_Mo_rowFault_13 ⟨Nat.zero_le _, Nat.zero_le _⟩ (fun w1 ws1 H locs e9 hw hP hD hS => ?_)
    obtain ⟨s4, g1_4, g2_4, g3_4, g4_4, g5_4, p2_4, rfl, hs4⟩ := hw
    have e9 : ws1 = [(b 16, eI aC 440 s4), (b 18, eI aC 1200 g1_4), (b 19, eI aC 1200 g2_4), (b 20, eI aC 1200 g3_4), (b 21, eI aC 1200 g4_4), (b 22, eI aC 1200 g5_4), (b 0, .inr (6, [.int (iI er), .int (iI M.rw), .int (iI M.cn), .int (iI M.en), .int (iI M.pr), .double (dM M.ko (-3)), .ref (b 1), .ref (b 2), .ref (b 3), .ref (b 4), .ref (b 5), .ref (b 6), .ref (b 7), .ref (b 8), .ref (b 9), .ref (b 10), .ref (b 11), .ref (b 12), .ref (b 13), .ref (b 14), .ref (b 15), .int (iI p2_4), .ref (b 16), .ref (b 17), .ref (b 18), .ref (b 19), .ref (b 20), .ref (b 21), .ref (b 22)])), (b 1, eD aC 192 (dA M.ka c3)), (b 6, eD aC 12 (dA M.krl c3)), (b 7, eD aC 12 (dA M.krh c3)), (b 8, eD aC 16 (dA M.kx M.xb)), (b 10, eZ aC 192 M.ai), (b 14, eZ aC 12 M.rli), (b 15, eZ aC 12 M.rhi)] := e9
    subst e9
    refine lv_aload_n hx hb d_Mo_rowFault_16 rfl (lv_at hl 1 rfl) ?_
    refine lv_aload_n hx hb d_Mo_rowFault_17 rfl (lv_at hl 1 rfl) ?_
    refine va_get (D := D) (ci := 6) (v := .ref (b 6)) (C := R_Mo) (T := F_Mo) (N := 29) hx hb hts i_Mo hown hK hP 6 rfl rfl 11 (by decide) (hts _ wf_Mo_25) (fun _ h9 => h9) rfl d_Mo_rowFault_18 ?_
    refine lv_iload_n hx hb d_Mo_rowFault_21 rfl (lv_at hl 2 rfl) ?_
    have hkl := hM.krl i (by omega) (by omega)
    refine x_dald hx hb hK hP 8 rfl (by omega) (by decide) d_Mo_rowFault_22 ?_
    refine x_topd _ _ (M.krl i) (-3) rfl ?_
    refine x_dconst1 hx hb d_Mo_rowFault_23 ?_
    refine x_dconst1 hx hb d_Mo_rowFault_24 ?_
    refine lv_iconst (v := iI 0) hx hb d_Mo_rowFault_25 rfl ?_
    refine lv_iconst (v := iI 1) hx hb d_Mo_rowFault_26 rfl ?_
    refine x_callV0F S (c_Mo_add l D aC b M er p2_4 s4 g1_4 g2_4 g3_4 g4_4 g5_4 (M.krl i) (-3) 1 0 1 0 0 1 (0 + su (mA M i) M.cn.toNat) (by omega) (by omega) (by omega) (by omega) (by omega) (by omega) (by omega) (by omega) hs4 (by omega)) t_Mo_168 (rm_ok (by decide) (by decide)) hK hN hP hD hS [0, 1, 2, 3, 4, 5, 6] [] rfl rfl (fun w9 hw => by obtain ⟨s5, g1_5, g2_5, g3_5, g4_5, g5_5, p2_5, rfl, hs5⟩ := hw; exact ⟨rfl, Nat.le_of_ble_eq_true rfl⟩) 6 6 rfl rfl rfl hl.1 rfl (Nat.le_of_ble_eq_true rfl) d_Mo_rowFault_27 ⟨Nat.zero_le _, Nat.zero_le _⟩ (fun w1 ws1 H locs e9 hw hP hD hS => ?_)
    obtain ⟨s5, g1_5, g2_5, g3_5, g4_5, g5_5, p2_5, rfl, hs5⟩ := hw
    have e9 : ws1 = [(b 16, eI aC 440 s5), (b 18, eI aC 1200 g1_5), (b 19, eI aC 1200 g2_5), (b 20, eI aC 1200 g3_5), (b 21, eI aC 1200 g4_5), (b 22, eI aC 1200 g5_5), (b 0, .inr (6, [.int (iI er), .int (iI M.rw), .int (iI M.cn), .int (iI M.en), .int (iI M.pr), .double (dM M.ko (-3)), .ref (b 1), .ref (b 2), .ref (b 3), .ref (b 4), .ref (b 5), .ref (b 6), .ref (b 7), .ref (b 8), .ref (b 9), .ref (b 10), .ref (b 11), .ref (b 12), .ref (b 13), .ref (b 14), .ref (b 15), .int (iI p2_5), .ref (b 16), .ref (b 17), .ref (b 18), .ref (b 19), .ref (b 20), .ref (b 21), .ref (b 22)])), (b 1, eD aC 192 (dA M.ka c3)), (b 6, eD aC 12 (dA M.krl c3)), (b 7, eD aC 12 (dA M.krh c3)), (b 8, eD aC 16 (dA M.kx M.xb)), (b 10, eZ aC 192 M.ai), (b 14, eZ aC 12 M.rli), (b 15, eZ aC 12 M.rhi)] := e9
    subst e9
    refine lv_aload_n hx hb d_Mo_rowFault_30 rfl (lv_at hl 1 rfl) ?_
    refine lv_iconst (v := iI 1) hx hb d_Mo_rowFault_31 rfl ?_
    refine x_callV1F (V := .double (dM (uM (po (-(0 + su (mA M i) M.cn.toNat + U3 1 (M.krl i) (-3) 1 0 1 0 0)))) (uE (po (-(0 + su (mA M i) M.cn.toNat + U3 1 (M.krl i) (-3) 1 0 1 0 0)))))) S (c_Mo_excess_1 l D aC b M er p2_5 (by omega) s5 g1_5 (0 + su (mA M i) M.cn.toNat + U3 1 (M.krl i) (-3) 1 0 1 0 0) hs5 (by first | exact (B_rL hM (i := i) (by omega)).big (by decide) | exact (B_rH hM (i := i) (by omega)).big (by decide))) t_Mo_183 (rm_ok (by decide) (by decide)) hK hN hP hD hS [0, 1, 6] [] rfl rfl (fun w9 hw => by obtain ⟨s6, g1_6, rfl⟩ := hw; exact ⟨rfl, Nat.le_of_ble_eq_true rfl⟩) 2 6 rfl rfl rfl hl.1 rfl (Nat.le_of_ble_eq_true rfl) d_Mo_rowFault_32 ⟨Nat.zero_le _, Nat.zero_le _⟩ (fun w1 ws1 H locs e9 hw hP hD hS => ?_)
    obtain ⟨s6, g1_6, rfl⟩ := hw
    have e9 : ws1 = [(b 16, eI aC 440 s6), (b 18, eI aC 1200 g1_6), (b 19, eI aC 1200 g2_5), (b 20, eI aC 1200 g3_5), (b 21, eI aC 1200 g4_5), (b 22, eI aC 1200 g5_5), (b 0, .inr (6, [.int (iI (eU er (po (-(0 + su (mA M i) M.cn.toNat + U3 1 (M.krl i) (-3) 1 0 1 0 0))))), .int (iI M.rw), .int (iI M.cn), .int (iI M.en), .int (iI M.pr), .double (dM M.ko (-3)), .ref (b 1), .ref (b 2), .ref (b 3), .ref (b 4), .ref (b 5), .ref (b 6), .ref (b 7), .ref (b 8), .ref (b 9), .ref (b 10), .ref (b 11), .ref (b 12), .ref (b 13), .ref (b 14), .ref (b 15), .int (iI p2_5), .ref (b 16), .ref (b 17), .ref (b 18), .ref (b 19), .ref (b 20), .ref (b 21), .ref (b 22)])), (b 1, eD aC 192 (dA M.ka c3)), (b 6, eD aC 12 (dA M.krl c3)), (b 7, eD aC 12 (dA M.krh c3)), (b 8, eD aC 16 (dA M.kx M.xb)), (b 10, eZ aC 192 M.ai), (b 14, eZ aC 12 M.rli), (b 15, eZ aC 12 M.rhi)] := e9
    subst e9
    have hu6 := eU_r (er := er) (V := po (-(0 + su (mA M i) M.cn.toNat + U3 1 (M.krl i) (-3) 1 0 1 0 0))) (by omega)
    have hok6 := u_ok (V := po (-(0 + su (mA M i) M.cn.toNat + U3 1 (M.krl i) (-3) 1 0 1 0 0)))
    refine lv_dstore_n (lv' := [(2, .double (dM (uM (po (-(0 + su (mA M i) M.cn.toNat + U3 1 (M.krl i) (-3) 1 0 1 0 0)))) (uE (po (-(0 + su (mA M i) M.cn.toNat + U3 1 (M.krl i) (-3) 1 0 1 0 0)))))), (0, .ref (b 0)), (1, .int (iI i))]) hx hb d_Mo_rowFault_35 rfl hl (by decide) rfl (fun ls hl => ?_)
    refine lv_aload_n hx hb d_Mo_rowFault_36 rfl (lv_at hl 1 rfl) ?_
    refine va_get (D := D) (ci := 6) (v := .ref (b 15)) (C := R_Mo) (T := F_Mo) (N := 29) hx hb hts i_Mo hown hK hP 6 rfl rfl 20 (by decide) (hts _ wf_Mo_53) (fun _ h9 => h9) rfl d_Mo_rowFault_37 ?_
    refine lv_iload_n hx hb d_Mo_rowFault_40 rfl (lv_at hl 2 rfl) ?_
    have hz2 := hM.rhi i (by omega) (by omega)
    refine x_zald hx hb hK hP 13 rfl (by omega) (by decide) d_Mo_rowFault_41 ?_
    refine x_if_eq (tgt := 81) hx hb d_Mo_rowFault_42 (by decide) (by omega) (fun c_42 => ?_) (fun c_42 => ?_)
    · refine lv_dload_n hx hb d_Mo_rowFault_81 rfl (lv_at hl 0 rfl) ?_
      have h1x : xrL M i = _ := if_pos c_8
      have h2x : xrH M i = _ := if_neg (fun z => z c_42)
      have hw9 : [(b 16, eI aC 440 s6), (b 18, eI aC 1200 g1_6), (b 19, eI aC 1200 g2_5), (b 20, eI aC 1200 g3_5), (b 21, eI aC 1200 g4_5), (b 22, eI aC 1200 g5_5), (b 0, .inr (6, [.int (iI (eU er (po (-(0 + su (mA M i) M.cn.toNat + U3 1 (M.krl i) (-3) 1 0 1 0 0))))), .int (iI M.rw), .int (iI M.cn), .int (iI M.en), .int (iI M.pr), .double (dM M.ko (-3)), .ref (b 1), .ref (b 2), .ref (b 3), .ref (b 4), .ref (b 5), .ref (b 6), .ref (b 7), .ref (b 8), .ref (b 9), .ref (b 10), .ref (b 11), .ref (b 12), .ref (b 13), .ref (b 14), .ref (b 15), .int (iI p2_5), .ref (b 16), .ref (b 17), .ref (b 18), .ref (b 19), .ref (b 20), .ref (b 21), .ref (b 22)])), (b 1, eD aC 192 (dA M.ka c3)), (b 6, eD aC 12 (dA M.krl c3)), (b 7, eD aC 12 (dA M.krh c3)), (b 8, eD aC 16 (dA M.kx M.xb)), (b 10, eZ aC 192 M.ai), (b 14, eZ aC 12 M.rli), (b 15, eZ aC 12 M.rhi)] = [(b 16, eI aC 440 s6), (b 18, eI aC 1200 g1_6), (b 19, eI aC 1200 g2_5), (b 20, eI aC 1200 g3_5), (b 21, eI aC 1200 g4_5), (b 22, eI aC 1200 g5_5), (b 0, .inr (6, [.int (iI (eU (eU er (xrL M i)) (xrH M i))), .int (iI M.rw), .int (iI M.cn), .int (iI M.en), .int (iI M.pr), .double (dM M.ko (-3)), .ref (b 1), .ref (b 2), .ref (b 3), .ref (b 4), .ref (b 5), .ref (b 6), .ref (b 7), .ref (b 8), .ref (b 9), .ref (b 10), .ref (b 11), .ref (b 12), .ref (b 13), .ref (b 14), .ref (b 15), .int (iI p2_5), .ref (b 16), .ref (b 17), .ref (b 18), .ref (b 19), .ref (b 20), .ref (b 21), .ref (b 22)])), (b 1, eD aC 192 (dA M.ka c3)), (b 6, eD aC 12 (dA M.krl c3)), (b 7, eD aC 12 (dA M.krh c3)), (b 8, eD aC 16 (dA M.kx M.xb)), (b 10, eZ aC 192 M.ai), (b 14, eZ aC 12 M.rli), (b 15, eZ aC 12 M.rhi)] := by rw [h1x, h2x, eU_z (V := 0) (Int.le_refl 0)] <;> rfl
      exact x_dret hx hb hr hlocks hQ (⟨by rw [h2x, (ms_0 (V := xrL M i) (by rw [h1x]; exact po_nn _)).1, (ms_0 (V := xrL M i) (by rw [h1x]; exact po_nn _)).2, h1x] <;> rfl, s6, g1_6, g2_5, g3_5, g4_5, g5_5, p2_5, hw9⟩) rfl hP hS d_Mo_rowFault_82
    · refine lv_aload_n hx hb d_Mo_rowFault_45 rfl (lv_at hl 1 rfl) ?_
      refine lv_iload_n hx hb d_Mo_rowFault_46 rfl (lv_at hl 2 rfl) ?_
      refine x_callV0F S (c_Mo_activity l D aC b M hM (eU er (po (-(0 + su (mA M i) M.cn.toNat + U3 1 (M.krl i) (-3) 1 0 1 0 0)))) p2_5 s6 g1_6 g2_5 g3_5 g4_5 g5_5 i (by omega)) t_Mo_179 (rm_ok (by decide) (by decide)) hK hN hP hD hS [0, 1, 2, 3, 4, 5, 6] [7, 10, 11] rfl (by decide +kernel) (fun w9 hw => by obtain ⟨s7, g1_7, g2_7, g3_7, g4_7, g5_7, p2_7, rfl, hs7⟩ := hw; exact ⟨rfl, Nat.le_of_ble_eq_true rfl⟩) 6 6 rfl rfl rfl hl.1 rfl (Nat.le_of_ble_eq_true rfl) d_Mo_rowFault_47 ⟨Nat.zero_le _, Nat.zero_le _⟩ (fun w1 ws1 H locs e9 hw hP hD hS => ?_)
      obtain ⟨s7, g1_7, g2_7, g3_7, g4_7, g5_7, p2_7, rfl, hs7⟩ := hw
      have e9 : ws1 = [(b 16, eI aC 440 s7), (b 18, eI aC 1200 g1_7), (b 19, eI aC 1200 g2_7), (b 20, eI aC 1200 g3_7), (b 21, eI aC 1200 g4_7), (b 22, eI aC 1200 g5_7), (b 0, .inr (6, [.int (iI (eU er (po (-(0 + su (mA M i) M.cn.toNat + U3 1 (M.krl i) (-3) 1 0 1 0 0))))), .int (iI M.rw), .int (iI M.cn), .int (iI M.en), .int (iI M.pr), .double (dM M.ko (-3)), .ref (b 1), .ref (b 2), .ref (b 3), .ref (b 4), .ref (b 5), .ref (b 6), .ref (b 7), .ref (b 8), .ref (b 9), .ref (b 10), .ref (b 11), .ref (b 12), .ref (b 13), .ref (b 14), .ref (b 15), .int (iI p2_7), .ref (b 16), .ref (b 17), .ref (b 18), .ref (b 19), .ref (b 20), .ref (b 21), .ref (b 22)])), (b 1, eD aC 192 (dA M.ka c3)), (b 6, eD aC 12 (dA M.krl c3)), (b 7, eD aC 12 (dA M.krh c3)), (b 8, eD aC 16 (dA M.kx M.xb)), (b 10, eZ aC 192 M.ai), (b 14, eZ aC 12 M.rli), (b 15, eZ aC 12 M.rhi)] := e9
      subst e9
      refine lv_aload_n hx hb d_Mo_rowFault_50 rfl (lv_at hl 1 rfl) ?_
      refine lv_aload_n hx hb d_Mo_rowFault_51 rfl (lv_at hl 1 rfl) ?_
      refine va_get (D := D) (ci := 6) (v := .ref (b 7)) (C := R_Mo) (T := F_Mo) (N := 29) hx hb hts i_Mo hown hK hP 6 rfl rfl 12 (by decide) (hts _ wf_Mo_28) (fun _ h9 => h9) rfl d_Mo_rowFault_52 ?_
      refine lv_iload_n hx hb d_Mo_rowFault_55 rfl (lv_at hl 2 rfl) ?_
      have hkh := hM.krh i (by omega) (by omega)
      refine x_dald hx hb hK hP 9 rfl (by omega) (by decide) d_Mo_rowFault_56 ?_
      refine x_topd _ _ (M.krh i) (-3) rfl ?_
      refine x_dconst1 hx hb d_Mo_rowFault_57 ?_
      refine x_dconst1 hx hb d_Mo_rowFault_58 ?_
      refine lv_iconst (v := iI 0) hx hb d_Mo_rowFault_59 rfl ?_
      refine lv_iconst (v := iI 1) hx hb d_Mo_rowFault_60 rfl ?_
      refine x_callV0F S (c_Mo_add l D aC b M (eU er (po (-(0 + su (mA M i) M.cn.toNat + U3 1 (M.krl i) (-3) 1 0 1 0 0)))) p2_7 s7 g1_7 g2_7 g3_7 g4_7 g5_7 (M.krh i) (-3) 1 0 1 0 0 1 (0 + su (mA M i) M.cn.toNat) (by omega) (by omega) (by omega) (by omega) (by omega) (by omega) (by omega) (by omega) hs7 (by omega)) t_Mo_168 (rm_ok (by decide) (by decide)) hK hN hP hD hS [0, 1, 2, 3, 4, 5, 6] [] rfl rfl (fun w9 hw => by obtain ⟨s8, g1_8, g2_8, g3_8, g4_8, g5_8, p2_8, rfl, hs8⟩ := hw; exact ⟨rfl, Nat.le_of_ble_eq_true rfl⟩) 6 6 rfl rfl rfl hl.1 rfl (Nat.le_of_ble_eq_true rfl) d_Mo_rowFault_61 ⟨Nat.zero_le _, Nat.zero_le _⟩ (fun w1 ws1 H locs e9 hw hP hD hS => ?_)
      obtain ⟨s8, g1_8, g2_8, g3_8, g4_8, g5_8, p2_8, rfl, hs8⟩ := hw
      have e9 : ws1 = [(b 16, eI aC 440 s8), (b 18, eI aC 1200 g1_8), (b 19, eI aC 1200 g2_8), (b 20, eI aC 1200 g3_8), (b 21, eI aC 1200 g4_8), (b 22, eI aC 1200 g5_8), (b 0, .inr (6, [.int (iI (eU er (po (-(0 + su (mA M i) M.cn.toNat + U3 1 (M.krl i) (-3) 1 0 1 0 0))))), .int (iI M.rw), .int (iI M.cn), .int (iI M.en), .int (iI M.pr), .double (dM M.ko (-3)), .ref (b 1), .ref (b 2), .ref (b 3), .ref (b 4), .ref (b 5), .ref (b 6), .ref (b 7), .ref (b 8), .ref (b 9), .ref (b 10), .ref (b 11), .ref (b 12), .ref (b 13), .ref (b 14), .ref (b 15), .int (iI p2_8), .ref (b 16), .ref (b 17), .ref (b 18), .ref (b 19), .ref (b 20), .ref (b 21), .ref (b 22)])), (b 1, eD aC 192 (dA M.ka c3)), (b 6, eD aC 12 (dA M.krl c3)), (b 7, eD aC 12 (dA M.krh c3)), (b 8, eD aC 16 (dA M.kx M.xb)), (b 10, eZ aC 192 M.ai), (b 14, eZ aC 12 M.rli), (b 15, eZ aC 12 M.rhi)] := e9
      subst e9
      refine lv_aload_n hx hb d_Mo_rowFault_64 rfl (lv_at hl 1 rfl) ?_
      refine lv_iconst (v := iI 0) hx hb d_Mo_rowFault_65 rfl ?_
      refine x_callV1F (V := .double (dM (uM (po (0 + su (mA M i) M.cn.toNat + U3 1 (M.krh i) (-3) 1 0 1 0 0))) (uE (po (0 + su (mA M i) M.cn.toNat + U3 1 (M.krh i) (-3) 1 0 1 0 0))))) S (c_Mo_excess_0 l D aC b M (eU er (po (-(0 + su (mA M i) M.cn.toNat + U3 1 (M.krl i) (-3) 1 0 1 0 0)))) p2_8 (by omega) s8 g1_8 (0 + su (mA M i) M.cn.toNat + U3 1 (M.krh i) (-3) 1 0 1 0 0) hs8 (by first | exact (B_rL hM (i := i) (by omega)).big (by decide) | exact (B_rH hM (i := i) (by omega)).big (by decide))) t_Mo_183 (rm_ok (by decide) (by decide)) hK hN hP hD hS [0, 1, 6] [] rfl rfl (fun w9 hw => by obtain ⟨s9, g1_9, rfl⟩ := hw; exact ⟨rfl, Nat.le_of_ble_eq_true rfl⟩) 2 6 rfl rfl rfl hl.1 rfl (Nat.le_of_ble_eq_true rfl) d_Mo_rowFault_66 ⟨Nat.zero_le _, Nat.zero_le _⟩ (fun w1 ws1 H locs e9 hw hP hD hS => ?_)
      obtain ⟨s9, g1_9, rfl⟩ := hw
      have e9 : ws1 = [(b 16, eI aC 440 s9), (b 18, eI aC 1200 g1_9), (b 19, eI aC 1200 g2_8), (b 20, eI aC 1200 g3_8), (b 21, eI aC 1200 g4_8), (b 22, eI aC 1200 g5_8), (b 0, .inr (6, [.int (iI (eU (eU er (po (-(0 + su (mA M i) M.cn.toNat + U3 1 (M.krl i) (-3) 1 0 1 0 0)))) (po (0 + su (mA M i) M.cn.toNat + U3 1 (M.krh i) (-3) 1 0 1 0 0)))), .int (iI M.rw), .int (iI M.cn), .int (iI M.en), .int (iI M.pr), .double (dM M.ko (-3)), .ref (b 1), .ref (b 2), .ref (b 3), .ref (b 4), .ref (b 5), .ref (b 6), .ref (b 7), .ref (b 8), .ref (b 9), .ref (b 10), .ref (b 11), .ref (b 12), .ref (b 13), .ref (b 14), .ref (b 15), .int (iI p2_8), .ref (b 16), .ref (b 17), .ref (b 18), .ref (b 19), .ref (b 20), .ref (b 21), .ref (b 22)])), (b 1, eD aC 192 (dA M.ka c3)), (b 6, eD aC 12 (dA M.krl c3)), (b 7, eD aC 12 (dA M.krh c3)), (b 8, eD aC 16 (dA M.kx M.xb)), (b 10, eZ aC 192 M.ai), (b 14, eZ aC 12 M.rli), (b 15, eZ aC 12 M.rhi)] := e9
      subst e9
      have hu9 := eU_r (er := eU er (po (-(0 + su (mA M i) M.cn.toNat + U3 1 (M.krl i) (-3) 1 0 1 0 0)))) (V := po (0 + su (mA M i) M.cn.toNat + U3 1 (M.krh i) (-3) 1 0 1 0 0)) (by omega)
      have hok9 := u_ok (V := po (0 + su (mA M i) M.cn.toNat + U3 1 (M.krh i) (-3) 1 0 1 0 0))
      refine lv_dstore (lv' := [(4, .double (dM (uM (po (0 + su (mA M i) M.cn.toNat + U3 1 (M.krh i) (-3) 1 0 1 0 0))) (uE (po (0 + su (mA M i) M.cn.toNat + U3 1 (M.krh i) (-3) 1 0 1 0 0))))), (2, .double (dM (uM (po (-(0 + su (mA M i) M.cn.toNat + U3 1 (M.krl i) (-3) 1 0 1 0 0)))) (uE (po (-(0 + su (mA M i) M.cn.toNat + U3 1 (M.krl i) (-3) 1 0 1 0 0)))))), (0, .ref (b 0)), (1, .int (iI i))]) hx hb d_Mo_rowFault_69 hl (by decide) rfl (fun ls hl => ?_)
      refine lv_dload hx hb d_Mo_rowFault_71 (lv_at hl 0 rfl) ?_
      refine lv_dload_n hx hb d_Mo_rowFault_73 rfl (lv_at hl 1 rfl) ?_
      refine x_dcmp_le (tgt := 81) hx hb d_Mo_rowFault_74 d_Mo_rowFault_75 (by decide) (by first | assumption | exact dOk_0) (by first | assumption | exact dOk_0) (fun c_74 => ?_) (fun c_74 => ?_)
      · refine lv_dload_n hx hb d_Mo_rowFault_81 rfl (lv_at hl 1 rfl) ?_
        have h1x : xrL M i = _ := if_pos c_8
        have h2x : xrH M i = _ := if_pos c_42
        have hw9 : [(b 16, eI aC 440 s9), (b 18, eI aC 1200 g1_9), (b 19, eI aC 1200 g2_8), (b 20, eI aC 1200 g3_8), (b 21, eI aC 1200 g4_8), (b 22, eI aC 1200 g5_8), (b 0, .inr (6, [.int (iI (eU (eU er (po (-(0 + su (mA M i) M.cn.toNat + U3 1 (M.krl i) (-3) 1 0 1 0 0)))) (po (0 + su (mA M i) M.cn.toNat + U3 1 (M.krh i) (-3) 1 0 1 0 0)))), .int (iI M.rw), .int (iI M.cn), .int (iI M.en), .int (iI M.pr), .double (dM M.ko (-3)), .ref (b 1), .ref (b 2), .ref (b 3), .ref (b 4), .ref (b 5), .ref (b 6), .ref (b 7), .ref (b 8), .ref (b 9), .ref (b 10), .ref (b 11), .ref (b 12), .ref (b 13), .ref (b 14), .ref (b 15), .int (iI p2_8), .ref (b 16), .ref (b 17), .ref (b 18), .ref (b 19), .ref (b 20), .ref (b 21), .ref (b 22)])), (b 1, eD aC 192 (dA M.ka c3)), (b 6, eD aC 12 (dA M.krl c3)), (b 7, eD aC 12 (dA M.krh c3)), (b 8, eD aC 16 (dA M.kx M.xb)), (b 10, eZ aC 192 M.ai), (b 14, eZ aC 12 M.rli), (b 15, eZ aC 12 M.rhi)] = [(b 16, eI aC 440 s9), (b 18, eI aC 1200 g1_9), (b 19, eI aC 1200 g2_8), (b 20, eI aC 1200 g3_8), (b 21, eI aC 1200 g4_8), (b 22, eI aC 1200 g5_8), (b 0, .inr (6, [.int (iI (eU (eU er (xrL M i)) (xrH M i))), .int (iI M.rw), .int (iI M.cn), .int (iI M.en), .int (iI M.pr), .double (dM M.ko (-3)), .ref (b 1), .ref (b 2), .ref (b 3), .ref (b 4), .ref (b 5), .ref (b 6), .ref (b 7), .ref (b 8), .ref (b 9), .ref (b 10), .ref (b 11), .ref (b 12), .ref (b 13), .ref (b 14), .ref (b 15), .int (iI p2_8), .ref (b 16), .ref (b 17), .ref (b 18), .ref (b 19), .ref (b 20), .ref (b 21), .ref (b 22)])), (b 1, eD aC 192 (dA M.ka c3)), (b 6, eD aC 12 (dA M.krl c3)), (b 7, eD aC 12 (dA M.krh c3)), (b 8, eD aC 16 (dA M.kx M.xb)), (b 10, eZ aC 192 M.ai), (b 14, eZ aC 12 M.rli), (b 15, eZ aC 12 M.rhi)] := by rw [h1x, h2x] <;> rfl
        exact x_dret hx hb hr hlocks hQ (⟨by rw [h1x, h2x]; have q9 := ms_f (fun z => absurd (Int.lt_of_lt_of_le z c_74) (Int.lt_irrefl _)); exact congrArg some (congrArg Value.double (congr (congrArg dM q9.1.symm) q9.2.symm)), s9, g1_9, g2_8, g3_8, g4_8, g5_8, p2_8, hw9⟩) rfl hP hS d_Mo_rowFault_82
      · refine lv_dload hx hb d_Mo_rowFault_78 (lv_at hl 0 rfl) ?_
        refine lv_dstore_n (lv' := [(2, .double (dM (uM (po (0 + su (mA M i) M.cn.toNat + U3 1 (M.krh i) (-3) 1 0 1 0 0))) (uE (po (0 + su (mA M i) M.cn.toNat + U3 1 (M.krh i) (-3) 1 0 1 0 0))))), (4, .double (dM (uM (po (0 + su (mA M i) M.cn.toNat + U3 1 (M.krh i) (-3) 1 0 1 0 0))) (uE (po (0 + su (mA M i) M.cn.toNat + U3 1 (M.krh i) (-3) 1 0 1 0 0))))), (0, .ref (b 0)), (1, .int (iI i))]) hx hb d_Mo_rowFault_80 rfl hl (by decide) rfl (fun ls hl => ?_)
        refine lv_dload_n hx hb d_Mo_rowFault_81 rfl (lv_at hl 0 rfl) ?_
        have h1x : xrL M i = _ := if_pos c_8
        have h2x : xrH M i = _ := if_pos c_42
        have hw9 : [(b 16, eI aC 440 s9), (b 18, eI aC 1200 g1_9), (b 19, eI aC 1200 g2_8), (b 20, eI aC 1200 g3_8), (b 21, eI aC 1200 g4_8), (b 22, eI aC 1200 g5_8), (b 0, .inr (6, [.int (iI (eU (eU er (po (-(0 + su (mA M i) M.cn.toNat + U3 1 (M.krl i) (-3) 1 0 1 0 0)))) (po (0 + su (mA M i) M.cn.toNat + U3 1 (M.krh i) (-3) 1 0 1 0 0)))), .int (iI M.rw), .int (iI M.cn), .int (iI M.en), .int (iI M.pr), .double (dM M.ko (-3)), .ref (b 1), .ref (b 2), .ref (b 3), .ref (b 4), .ref (b 5), .ref (b 6), .ref (b 7), .ref (b 8), .ref (b 9), .ref (b 10), .ref (b 11), .ref (b 12), .ref (b 13), .ref (b 14), .ref (b 15), .int (iI p2_8), .ref (b 16), .ref (b 17), .ref (b 18), .ref (b 19), .ref (b 20), .ref (b 21), .ref (b 22)])), (b 1, eD aC 192 (dA M.ka c3)), (b 6, eD aC 12 (dA M.krl c3)), (b 7, eD aC 12 (dA M.krh c3)), (b 8, eD aC 16 (dA M.kx M.xb)), (b 10, eZ aC 192 M.ai), (b 14, eZ aC 12 M.rli), (b 15, eZ aC 12 M.rhi)] = [(b 16, eI aC 440 s9), (b 18, eI aC 1200 g1_9), (b 19, eI aC 1200 g2_8), (b 20, eI aC 1200 g3_8), (b 21, eI aC 1200 g4_8), (b 22, eI aC 1200 g5_8), (b 0, .inr (6, [.int (iI (eU (eU er (xrL M i)) (xrH M i))), .int (iI M.rw), .int (iI M.cn), .int (iI M.en), .int (iI M.pr), .double (dM M.ko (-3)), .ref (b 1), .ref (b 2), .ref (b 3), .ref (b 4), .ref (b 5), .ref (b 6), .ref (b 7), .ref (b 8), .ref (b 9), .ref (b 10), .ref (b 11), .ref (b 12), .ref (b 13), .ref (b 14), .ref (b 15), .int (iI p2_8), .ref (b 16), .ref (b 17), .ref (b 18), .ref (b 19), .ref (b 20), .ref (b 21), .ref (b 22)])), (b 1, eD aC 192 (dA M.ka c3)), (b 6, eD aC 12 (dA M.krl c3)), (b 7, eD aC 12 (dA M.krh c3)), (b 8, eD aC 16 (dA M.kx M.xb)), (b 10, eZ aC 192 M.ai), (b 14, eZ aC 12 M.rli), (b 15, eZ aC 12 M.rhi)] := by rw [h1x, h2x] <;> rfl
        exact x_dret hx hb hr hlocks hQ (⟨by rw [h1x, h2x]; have q9 := ms_t (Int.lt_of_not_ge c_74); exact congrArg some (congrArg Value.double (congr (congrArg dM q9.1.symm) q9.2.symm)), s9, g1_9, g2_8, g3_8, g4_8, g5_8, p2_8, hw9⟩) rfl hP hS d_Mo_rowFault_82
set_option maxHeartbeats 4000000 in
set_option maxRecDepth 100000 in
theorem c_Mo_columnFault (l : Launch) (D : va_G) (aC : Nat → ClassId) (b : Nat → Nat) (M : MS) (hM : MI M) (er p2 : Int) (her : 0 ≤ er ∧ er ≤ 3) (f f1 f2 f3 f4 f5 : Int → Int) (i : Int) (hi : 0 ≤ i ∧ i < 16) : CT l D aC y_Mo_columnFault (rd 3 97) [.ref (b 0), .int (iI i)] [(b 16, eI aC 440 f), (b 18, eI aC 1200 f1), (b 19, eI aC 1200 f2), (b 20, eI aC 1200 f3), (b 21, eI aC 1200 f4), (b 22, eI aC 1200 f5), (b 0, .inr (6, [.int (iI er), .int (iI M.rw), .int (iI M.cn), .int (iI M.en), .int (iI M.pr), .double (dM M.ko (-3)), .ref (b 1), .ref (b 2), .ref (b 3), .ref (b 4), .ref (b 5), .ref (b 6), .ref (b 7), .ref (b 8), .ref (b 9), .ref (b 10), .ref (b 11), .ref (b 12), .ref (b 13), .ref (b 14), .ref (b 15), .int (iI p2), .ref (b 16), .ref (b 17), .ref (b 18), .ref (b 19), .ref (b 20), .ref (b 21), .ref (b 22)])), (b 4, eD aC 16 (dA M.kl c3)), (b 5, eD aC 16 (dA M.kh c3)), (b 8, eD aC 16 (dA M.kx M.xb)), (b 12, eZ aC 16 M.li), (b 13, eZ aC 16 M.hi)] (fun v w => v = some (.double (dM (msM (uM (xcL M i)) (uE (xcL M i)) (uM (xcH M i)) (uE (xcH M i))) (msE (uM (xcL M i)) (uE (xcL M i)) (uM (xcH M i)) (uE (xcH M i))))) ∧ ∃ (h g1 g2 g3 g4 g5 : Int → Int) (p2' : Int), w = [(b 16, eI aC 440 h), (b 18, eI aC 1200 g1), (b 19, eI aC 1200 g2), (b 20, eI aC 1200 g3), (b 21, eI aC 1200 g4), (b 22, eI aC 1200 g5), (b 0, .inr (6, [.int (iI (eU (eU er (xcL M i)) (xcH M i))), .int (iI M.rw), .int (iI M.cn), .int (iI M.en), .int (iI M.pr), .double (dM M.ko (-3)), .ref (b 1), .ref (b 2), .ref (b 3), .ref (b 4), .ref (b 5), .ref (b 6), .ref (b 7), .ref (b 8), .ref (b 9), .ref (b 10), .ref (b 11), .ref (b 12), .ref (b 13), .ref (b 14), .ref (b 15), .int (iI p2'), .ref (b 16), .ref (b 17), .ref (b 18), .ref (b 19), .ref (b 20), .ref (b 21), .ref (b 22)])), (b 4, eD aC 16 (dA M.kl c3)), (b 5, eD aC 16 (dA M.kh c3)), (b 8, eD aC 16 (dA M.kx M.xb)), (b 12, eZ aC 16 M.li), (b 13, eZ aC 16 M.hi)]) := by
  refine CT.of (cc := b_Mo_columnFault) (maxL := 6) (ret := (some .double)) (by decide +kernel) k_Mo_columnFault (Nat.le_of_ble_eq_true rfl) ?_
  intro p e s m below meth c Q S hr hlocks hQ hK hN hP hD hS ls hl
  obtain ⟨hx, hb, hml, hown, hts⟩ := id S
  have hl : lv_has ls 6 [(0, .ref (b 0)), (1, .int (iI i))] := hl
  have hrw := hM.rw
  have hcn := hM.cn
  refine x_dconst0 hx hb d_Mo_columnFault_0 ?_
  refine lv_dstore_n (lv' := [(2, .double (dM 0 0)), (0, .ref (b 0)), (1, .int (iI i))]) hx hb d_Mo_columnFault_1 rfl hl (by decide) rfl (fun ls hl => ?_)
  refine lv_aload_n hx hb d_Mo_columnFault_2 rfl (lv_at hl 1 rfl) ?_
  refine va_get (D := D) (ci := 6) (v := .ref (b 12)) (C := R_Mo) (T := F_Mo) (N := 29) hx hb hts i_Mo hown hK hP 6 rfl rfl 17 (by decide) (hts _ wf_Mo_44) (fun _ h9 => h9) rfl d_Mo_columnFault_3 ?_
  refine lv_iload_n hx hb d_Mo_columnFault_6 rfl (lv_at hl 2 rfl) ?_
  have hz1 := hM.li i (by omega) (by omega)
  refine x_zald hx hb hK hP 10 rfl (by omega) (by decide) d_Mo_columnFault_7 ?_
  refine x_if_eq (tgt := 49) hx hb d_Mo_columnFault_8 (by decide) (by omega) (fun c_8 => ?_) (fun c_8 => ?_)
  · refine lv_aload_n hx hb d_Mo_columnFault_49 rfl (lv_at hl 1 rfl) ?_
    refine va_get (D := D) (ci := 6) (v := .ref (b 13)) (C := R_Mo) (T := F_Mo) (N := 29) hx hb hts i_Mo hown hK hP 6 rfl rfl 18 (by decide) (hts _ wf_Mo_47) (fun _ h9 => h9) rfl d_Mo_columnFault_50 ?_
    refine lv_iload_n hx hb d_Mo_columnFault_53 rfl (lv_at hl 2 rfl) ?_
    have hz2 := hM.hi i (by omega) (by omega)
    refine x_zald hx hb hK hP 11 rfl (by omega) (by decide) d_Mo_columnFault_54 ?_
    refine x_if_eq (tgt := 107) hx hb d_Mo_columnFault_55 (by decide) (by omega) (fun c_55 => ?_) (fun c_55 => ?_)
    · refine lv_dload_n hx hb d_Mo_columnFault_107 rfl (lv_at hl 0 rfl) ?_
      have h1x : xcL M i = _ := if_neg (fun z => z c_8)
      have h2x : xcH M i = _ := if_neg (fun z => z c_55)
      have hw9 : [(b 16, eI aC 440 f), (b 18, eI aC 1200 f1), (b 19, eI aC 1200 f2), (b 20, eI aC 1200 f3), (b 21, eI aC 1200 f4), (b 22, eI aC 1200 f5), (b 0, .inr (6, [.int (iI er), .int (iI M.rw), .int (iI M.cn), .int (iI M.en), .int (iI M.pr), .double (dM M.ko (-3)), .ref (b 1), .ref (b 2), .ref (b 3), .ref (b 4), .ref (b 5), .ref (b 6), .ref (b 7), .ref (b 8), .ref (b 9), .ref (b 10), .ref (b 11), .ref (b 12), .ref (b 13), .ref (b 14), .ref (b 15), .int (iI p2), .ref (b 16), .ref (b 17), .ref (b 18), .ref (b 19), .ref (b 20), .ref (b 21), .ref (b 22)])), (b 4, eD aC 16 (dA M.kl c3)), (b 5, eD aC 16 (dA M.kh c3)), (b 8, eD aC 16 (dA M.kx M.xb)), (b 12, eZ aC 16 M.li), (b 13, eZ aC 16 M.hi)] = [(b 16, eI aC 440 f), (b 18, eI aC 1200 f1), (b 19, eI aC 1200 f2), (b 20, eI aC 1200 f3), (b 21, eI aC 1200 f4), (b 22, eI aC 1200 f5), (b 0, .inr (6, [.int (iI (eU (eU er (xcL M i)) (xcH M i))), .int (iI M.rw), .int (iI M.cn), .int (iI M.en), .int (iI M.pr), .double (dM M.ko (-3)), .ref (b 1), .ref (b 2), .ref (b 3), .ref (b 4), .ref (b 5), .ref (b 6), .ref (b 7), .ref (b 8), .ref (b 9), .ref (b 10), .ref (b 11), .ref (b 12), .ref (b 13), .ref (b 14), .ref (b 15), .int (iI p2), .ref (b 16), .ref (b 17), .ref (b 18), .ref (b 19), .ref (b 20), .ref (b 21), .ref (b 22)])), (b 4, eD aC 16 (dA M.kl c3)), (b 5, eD aC 16 (dA M.kh c3)), (b 8, eD aC 16 (dA M.kx M.xb)), (b 12, eZ aC 16 M.li), (b 13, eZ aC 16 M.hi)] := by rw [h1x, h2x, eU_z (Int.le_refl 0), eU_z (Int.le_refl 0)] <;> rfl
      exact x_dret hx hb hr hlocks hQ (⟨by rw [h2x, (ms_0 (V := xcL M i) (by rw [h1x]; exact Int.le_refl 0)).1, (ms_0 (V := xcL M i) (by rw [h1x]; exact Int.le_refl 0)).2, h1x, uM_0, uE_0], f, f1, f2, f3, f4, f5, p2, hw9⟩) rfl hP hS d_Mo_columnFault_108
    · have hkh := hM.kh i (by omega) (by omega)
      have hkx := hM.kx i (by omega) (by omega)
      have hkb := hM.xb i (by omega) (by omega)
      refine lv_aload_n hx hb d_Mo_columnFault_58 rfl (lv_at hl 1 rfl) ?_
      refine x_callV0F S (c_Mo_zero l D aC b M er p2 f) t_Mo_165 (rm_ok (by decide) (by decide)) hK hN hP hD hS [0] [6] rfl rfl (fun w9 hw => by obtain ⟨s1, rfl, hs1⟩ := hw; exact ⟨rfl, Nat.le_of_ble_eq_true rfl⟩) 1 6 rfl rfl rfl hl.1 rfl (Nat.le_of_ble_eq_true rfl) d_Mo_columnFault_59 ⟨Nat.zero_le _, Nat.zero_le _⟩ (fun w1 ws1 H locs e9 hw hP hD hS => ?_)
      obtain ⟨s1, rfl, hs1⟩ := hw
      have e9 : ws1 = [(b 16, eI aC 440 s1), (b 18, eI aC 1200 f1), (b 19, eI aC 1200 f2), (b 20, eI aC 1200 f3), (b 21, eI aC 1200 f4), (b 22, eI aC 1200 f5), (b 0, .inr (6, [.int (iI er), .int (iI M.rw), .int (iI M.cn), .int (iI M.en), .int (iI M.pr), .double (dM M.ko (-3)), .ref (b 1), .ref (b 2), .ref (b 3), .ref (b 4), .ref (b 5), .ref (b 6), .ref (b 7), .ref (b 8), .ref (b 9), .ref (b 10), .ref (b 11), .ref (b 12), .ref (b 13), .ref (b 14), .ref (b 15), .int (iI p2), .ref (b 16), .ref (b 17), .ref (b 18), .ref (b 19), .ref (b 20), .ref (b 21), .ref (b 22)])), (b 4, eD aC 16 (dA M.kl c3)), (b 5, eD aC 16 (dA M.kh c3)), (b 8, eD aC 16 (dA M.kx M.xb)), (b 12, eZ aC 16 M.li), (b 13, eZ aC 16 M.hi)] := e9
      subst e9
      refine lv_aload_n hx hb d_Mo_columnFault_62 rfl (lv_at hl 1 rfl) ?_
      refine lv_aload_n hx hb d_Mo_columnFault_63 rfl (lv_at hl 1 rfl) ?_
      refine va_get (D := D) (ci := 6) (v := .ref (b 8)) (C := R_Mo) (T := F_Mo) (N := 29) hx hb hts i_Mo hown hK hP 6 rfl rfl 13 (by decide) (hts _ wf_Mo_31) (fun _ h9 => h9) rfl d_Mo_columnFault_64 ?_
      refine lv_iload_n hx hb d_Mo_columnFault_67 rfl (lv_at hl 2 rfl) ?_
      refine x_dald hx hb hK hP 9 rfl (by omega) (by decide) d_Mo_columnFault_68 ?_
      refine x_dconst1 hx hb d_Mo_columnFault_69 ?_
      refine x_dconst1 hx hb d_Mo_columnFault_70 ?_
      refine lv_iconst (v := iI 0) hx hb d_Mo_columnFault_71 rfl ?_
      refine lv_iconst (v := iI 0) hx hb d_Mo_columnFault_72 rfl ?_
      refine x_callV0F S (c_Mo_add l D aC b M er p2 s1 f1 f2 f3 f4 f5 (M.kx i) (M.xb i) 1 0 1 0 0 0 0 (by omega) (by omega) (by omega) (by omega) (by omega) (by omega) (by omega) (by omega) hs1 (by omega)) t_Mo_168 (rm_ok (by decide) (by decide)) hK hN hP hD hS [0, 1, 2, 3, 4, 5, 6] [] rfl rfl (fun w9 hw => by obtain ⟨s2, g1_2, g2_2, g3_2, g4_2, g5_2, p2_2, rfl, hs2⟩ := hw; exact ⟨rfl, Nat.le_of_ble_eq_true rfl⟩) 6 6 rfl rfl rfl hl.1 rfl (Nat.le_of_ble_eq_true rfl) d_Mo_columnFault_73 ⟨Nat.zero_le _, Nat.zero_le _⟩ (fun w1 ws1 H locs e9 hw hP hD hS => ?_)
      obtain ⟨s2, g1_2, g2_2, g3_2, g4_2, g5_2, p2_2, rfl, hs2⟩ := hw
      have e9 : ws1 = [(b 16, eI aC 440 s2), (b 18, eI aC 1200 g1_2), (b 19, eI aC 1200 g2_2), (b 20, eI aC 1200 g3_2), (b 21, eI aC 1200 g4_2), (b 22, eI aC 1200 g5_2), (b 0, .inr (6, [.int (iI er), .int (iI M.rw), .int (iI M.cn), .int (iI M.en), .int (iI M.pr), .double (dM M.ko (-3)), .ref (b 1), .ref (b 2), .ref (b 3), .ref (b 4), .ref (b 5), .ref (b 6), .ref (b 7), .ref (b 8), .ref (b 9), .ref (b 10), .ref (b 11), .ref (b 12), .ref (b 13), .ref (b 14), .ref (b 15), .int (iI p2_2), .ref (b 16), .ref (b 17), .ref (b 18), .ref (b 19), .ref (b 20), .ref (b 21), .ref (b 22)])), (b 4, eD aC 16 (dA M.kl c3)), (b 5, eD aC 16 (dA M.kh c3)), (b 8, eD aC 16 (dA M.kx M.xb)), (b 12, eZ aC 16 M.li), (b 13, eZ aC 16 M.hi)] := e9
      subst e9
      refine lv_aload_n hx hb d_Mo_columnFault_76 rfl (lv_at hl 1 rfl) ?_
      refine lv_aload_n hx hb d_Mo_columnFault_77 rfl (lv_at hl 1 rfl) ?_
      refine va_get (D := D) (ci := 6) (v := .ref (b 5)) (C := R_Mo) (T := F_Mo) (N := 29) hx hb hts i_Mo hown hK hP 6 rfl rfl 10 (by decide) (hts _ wf_Mo_22) (fun _ h9 => h9) rfl d_Mo_columnFault_78 ?_
      refine lv_iload_n hx hb d_Mo_columnFault_81 rfl (lv_at hl 2 rfl) ?_
      refine x_dald hx hb hK hP 8 rfl (by omega) (by decide) d_Mo_columnFault_82 ?_
      refine x_topd _ _ (M.kh i) (-3) rfl ?_
      refine x_dconst1 hx hb d_Mo_columnFault_83 ?_
      refine x_dconst1 hx hb d_Mo_columnFault_84 ?_
      refine lv_iconst (v := iI 0) hx hb d_Mo_columnFault_85 rfl ?_
      refine lv_iconst (v := iI 1) hx hb d_Mo_columnFault_86 rfl ?_
      refine x_callV0F S (c_Mo_add l D aC b M er p2_2 s2 g1_2 g2_2 g3_2 g4_2 g5_2 (M.kh i) (-3) 1 0 1 0 0 1 (0 + U3 0 (M.kx i) (M.xb i) 1 0 1 0 0) (by omega) (by omega) (by omega) (by omega) (by omega) (by omega) (by omega) (by omega) hs2 (by omega)) t_Mo_168 (rm_ok (by decide) (by decide)) hK hN hP hD hS [0, 1, 2, 3, 4, 5, 6] [] rfl rfl (fun w9 hw => by obtain ⟨s3, g1_3, g2_3, g3_3, g4_3, g5_3, p2_3, rfl, hs3⟩ := hw; exact ⟨rfl, Nat.le_of_ble_eq_true rfl⟩) 6 6 rfl rfl rfl hl.1 rfl (Nat.le_of_ble_eq_true rfl) d_Mo_columnFault_87 ⟨Nat.zero_le _, Nat.zero_le _⟩ (fun w1 ws1 H locs e9 hw hP hD hS => ?_)
      obtain ⟨s3, g1_3, g2_3, g3_3, g4_3, g5_3, p2_3, rfl, hs3⟩ := hw
      have e9 : ws1 = [(b 16, eI aC 440 s3), (b 18, eI aC 1200 g1_3), (b 19, eI aC 1200 g2_3), (b 20, eI aC 1200 g3_3), (b 21, eI aC 1200 g4_3), (b 22, eI aC 1200 g5_3), (b 0, .inr (6, [.int (iI er), .int (iI M.rw), .int (iI M.cn), .int (iI M.en), .int (iI M.pr), .double (dM M.ko (-3)), .ref (b 1), .ref (b 2), .ref (b 3), .ref (b 4), .ref (b 5), .ref (b 6), .ref (b 7), .ref (b 8), .ref (b 9), .ref (b 10), .ref (b 11), .ref (b 12), .ref (b 13), .ref (b 14), .ref (b 15), .int (iI p2_3), .ref (b 16), .ref (b 17), .ref (b 18), .ref (b 19), .ref (b 20), .ref (b 21), .ref (b 22)])), (b 4, eD aC 16 (dA M.kl c3)), (b 5, eD aC 16 (dA M.kh c3)), (b 8, eD aC 16 (dA M.kx M.xb)), (b 12, eZ aC 16 M.li), (b 13, eZ aC 16 M.hi)] := e9
      subst e9
      refine lv_aload_n hx hb d_Mo_columnFault_90 rfl (lv_at hl 1 rfl) ?_
      refine lv_iconst (v := iI 0) hx hb d_Mo_columnFault_91 rfl ?_
      refine x_callV1F (V := .double (dM (uM (po (0 + U3 0 (M.kx i) (M.xb i) 1 0 1 0 0 + U3 1 (M.kh i) (-3) 1 0 1 0 0))) (uE (po (0 + U3 0 (M.kx i) (M.xb i) 1 0 1 0 0 + U3 1 (M.kh i) (-3) 1 0 1 0 0))))) S (c_Mo_excess_0 l D aC b M er p2_3 (by omega) s3 g1_3 (0 + U3 0 (M.kx i) (M.xb i) 1 0 1 0 0 + U3 1 (M.kh i) (-3) 1 0 1 0 0) hs3 (by first | exact (B_cL hM (i := i) (by omega)).big (by decide) | exact (B_cH hM (i := i) (by omega)).big (by decide))) t_Mo_183 (rm_ok (by decide) (by decide)) hK hN hP hD hS [0, 1, 6] [] rfl rfl (fun w9 hw => by obtain ⟨s4, g1_4, rfl⟩ := hw; exact ⟨rfl, Nat.le_of_ble_eq_true rfl⟩) 2 6 rfl rfl rfl hl.1 rfl (Nat.le_of_ble_eq_true rfl) d_Mo_columnFault_92 ⟨Nat.zero_le _, Nat.zero_le _⟩ (fun w1 ws1 H locs e9 hw hP hD hS => ?_)
      obtain ⟨s4, g1_4, rfl⟩ := hw
      have e9 : ws1 = [(b 16, eI aC 440 s4), (b 18, eI aC 1200 g1_4), (b 19, eI aC 1200 g2_3), (b 20, eI aC 1200 g3_3), (b 21, eI aC 1200 g4_3), (b 22, eI aC 1200 g5_3), (b 0, .inr (6, [.int (iI (eU er (po (0 + U3 0 (M.kx i) (M.xb i) 1 0 1 0 0 + U3 1 (M.kh i) (-3) 1 0 1 0 0)))), .int (iI M.rw), .int (iI M.cn), .int (iI M.en), .int (iI M.pr), .double (dM M.ko (-3)), .ref (b 1), .ref (b 2), .ref (b 3), .ref (b 4), .ref (b 5), .ref (b 6), .ref (b 7), .ref (b 8), .ref (b 9), .ref (b 10), .ref (b 11), .ref (b 12), .ref (b 13), .ref (b 14), .ref (b 15), .int (iI p2_3), .ref (b 16), .ref (b 17), .ref (b 18), .ref (b 19), .ref (b 20), .ref (b 21), .ref (b 22)])), (b 4, eD aC 16 (dA M.kl c3)), (b 5, eD aC 16 (dA M.kh c3)), (b 8, eD aC 16 (dA M.kx M.xb)), (b 12, eZ aC 16 M.li), (b 13, eZ aC 16 M.hi)] := e9
      subst e9
      have hu4 := eU_r (er := er) (V := po (0 + U3 0 (M.kx i) (M.xb i) 1 0 1 0 0 + U3 1 (M.kh i) (-3) 1 0 1 0 0)) (by omega)
      have hok4 := u_ok (V := po (0 + U3 0 (M.kx i) (M.xb i) 1 0 1 0 0 + U3 1 (M.kh i) (-3) 1 0 1 0 0))
      refine lv_dstore (lv' := [(4, .double (dM (uM (po (0 + U3 0 (M.kx i) (M.xb i) 1 0 1 0 0 + U3 1 (M.kh i) (-3) 1 0 1 0 0))) (uE (po (0 + U3 0 (M.kx i) (M.xb i) 1 0 1 0 0 + U3 1 (M.kh i) (-3) 1 0 1 0 0))))), (2, .double (dM 0 0)), (0, .ref (b 0)), (1, .int (iI i))]) hx hb d_Mo_columnFault_95 hl (by decide) rfl (fun ls hl => ?_)
      refine lv_dload hx hb d_Mo_columnFault_97 (lv_at hl 0 rfl) ?_
      refine lv_dload_n hx hb d_Mo_columnFault_99 rfl (lv_at hl 1 rfl) ?_
      refine x_dcmp_le (tgt := 107) hx hb d_Mo_columnFault_100 d_Mo_columnFault_101 (by decide) (by first | assumption | exact dOk_0) (by first | assumption | exact dOk_0) (fun c_100 => ?_) (fun c_100 => ?_)
      · refine lv_dload_n hx hb d_Mo_columnFault_107 rfl (lv_at hl 1 rfl) ?_
        have h1x : xcL M i = _ := if_neg (fun z => z c_8)
        have h2x : xcH M i = _ := if_pos c_55
        have hw9 : [(b 16, eI aC 440 s4), (b 18, eI aC 1200 g1_4), (b 19, eI aC 1200 g2_3), (b 20, eI aC 1200 g3_3), (b 21, eI aC 1200 g4_3), (b 22, eI aC 1200 g5_3), (b 0, .inr (6, [.int (iI (eU er (po (0 + U3 0 (M.kx i) (M.xb i) 1 0 1 0 0 + U3 1 (M.kh i) (-3) 1 0 1 0 0)))), .int (iI M.rw), .int (iI M.cn), .int (iI M.en), .int (iI M.pr), .double (dM M.ko (-3)), .ref (b 1), .ref (b 2), .ref (b 3), .ref (b 4), .ref (b 5), .ref (b 6), .ref (b 7), .ref (b 8), .ref (b 9), .ref (b 10), .ref (b 11), .ref (b 12), .ref (b 13), .ref (b 14), .ref (b 15), .int (iI p2_3), .ref (b 16), .ref (b 17), .ref (b 18), .ref (b 19), .ref (b 20), .ref (b 21), .ref (b 22)])), (b 4, eD aC 16 (dA M.kl c3)), (b 5, eD aC 16 (dA M.kh c3)), (b 8, eD aC 16 (dA M.kx M.xb)), (b 12, eZ aC 16 M.li), (b 13, eZ aC 16 M.hi)] = [(b 16, eI aC 440 s4), (b 18, eI aC 1200 g1_4), (b 19, eI aC 1200 g2_3), (b 20, eI aC 1200 g3_3), (b 21, eI aC 1200 g4_3), (b 22, eI aC 1200 g5_3), (b 0, .inr (6, [.int (iI (eU (eU er (xcL M i)) (xcH M i))), .int (iI M.rw), .int (iI M.cn), .int (iI M.en), .int (iI M.pr), .double (dM M.ko (-3)), .ref (b 1), .ref (b 2), .ref (b 3), .ref (b 4), .ref (b 5), .ref (b 6), .ref (b 7), .ref (b 8), .ref (b 9), .ref (b 10), .ref (b 11), .ref (b 12), .ref (b 13), .ref (b 14), .ref (b 15), .int (iI p2_3), .ref (b 16), .ref (b 17), .ref (b 18), .ref (b 19), .ref (b 20), .ref (b 21), .ref (b 22)])), (b 4, eD aC 16 (dA M.kl c3)), (b 5, eD aC 16 (dA M.kh c3)), (b 8, eD aC 16 (dA M.kx M.xb)), (b 12, eZ aC 16 M.li), (b 13, eZ aC 16 M.hi)] := by rw [h1x, h2x, eU_z (V := 0) (Int.le_refl 0)] <;> rfl
        exact x_dret hx hb hr hlocks hQ (⟨by rw [h1x, h2x, uM_0, uE_0]; have q9 := ms_f (fun z => absurd (Int.lt_of_lt_of_le z c_100) (Int.lt_irrefl _)); exact congrArg some (congrArg Value.double (congr (congrArg dM q9.1.symm) q9.2.symm)), s4, g1_4, g2_3, g3_3, g4_3, g5_3, p2_3, hw9⟩) rfl hP hS d_Mo_columnFault_108
      · refine lv_dload hx hb d_Mo_columnFault_104 (lv_at hl 0 rfl) ?_
        refine lv_dstore_n (lv' := [(2, .double (dM (uM (po (0 + U3 0 (M.kx i) (M.xb i) 1 0 1 0 0 + U3 1 (M.kh i) (-3) 1 0 1 0 0))) (uE (po (0 + U3 0 (M.kx i) (M.xb i) 1 0 1 0 0 + U3 1 (M.kh i) (-3) 1 0 1 0 0))))), (4, .double (dM (uM (po (0 + U3 0 (M.kx i) (M.xb i) 1 0 1 0 0 + U3 1 (M.kh i) (-3) 1 0 1 0 0))) (uE (po (0 + U3 0 (M.kx i) (M.xb i) 1 0 1 0 0 + U3 1 (M.kh i) (-3) 1 0 1 0 0))))), (0, .ref (b 0)), (1, .int (iI i))]) hx hb d_Mo_columnFault_106 rfl hl (by decide) rfl (fun ls hl => ?_)
        refine lv_dload_n hx hb d_Mo_columnFault_107 rfl (lv_at hl 0 rfl) ?_
        have h1x : xcL M i = _ := if_neg (fun z => z c_8)
        have h2x : xcH M i = _ := if_pos c_55
        have hw9 : [(b 16, eI aC 440 s4), (b 18, eI aC 1200 g1_4), (b 19, eI aC 1200 g2_3), (b 20, eI aC 1200 g3_3), (b 21, eI aC 1200 g4_3), (b 22, eI aC 1200 g5_3), (b 0, .inr (6, [.int (iI (eU er (po (0 + U3 0 (M.kx i) (M.xb i) 1 0 1 0 0 + U3 1 (M.kh i) (-3) 1 0 1 0 0)))), .int (iI M.rw), .int (iI M.cn), .int (iI M.en), .int (iI M.pr), .double (dM M.ko (-3)), .ref (b 1), .ref (b 2), .ref (b 3), .ref (b 4), .ref (b 5), .ref (b 6), .ref (b 7), .ref (b 8), .ref (b 9), .ref (b 10), .ref (b 11), .ref (b 12), .ref (b 13), .ref (b 14), .ref (b 15), .int (iI p2_3), .ref (b 16), .ref (b 17), .ref (b 18), .ref (b 19), .ref (b 20), .ref (b 21), .ref (b 22)])), (b 4, eD aC 16 (dA M.kl c3)), (b 5, eD aC 16 (dA M.kh c3)), (b 8, eD aC 16 (dA M.kx M.xb)), (b 12, eZ aC 16 M.li), (b 13, eZ aC 16 M.hi)] = [(b 16, eI aC 440 s4), (b 18, eI aC 1200 g1_4), (b 19, eI aC 1200 g2_3), (b 20, eI aC 1200 g3_3), (b 21, eI aC 1200 g4_3), (b 22, eI aC 1200 g5_3), (b 0, .inr (6, [.int (iI (eU (eU er (xcL M i)) (xcH M i))), .int (iI M.rw), .int (iI M.cn), .int (iI M.en), .int (iI M.pr), .double (dM M.ko (-3)), .ref (b 1), .ref (b 2), .ref (b 3), .ref (b 4), .ref (b 5), .ref (b 6), .ref (b 7), .ref (b 8), .ref (b 9), .ref (b 10), .ref (b 11), .ref (b 12), .ref (b 13), .ref (b 14), .ref (b 15), .int (iI p2_3), .ref (b 16), .ref (b 17), .ref (b 18), .ref (b 19), .ref (b 20), .ref (b 21), .ref (b 22)])), (b 4, eD aC 16 (dA M.kl c3)), (b 5, eD aC 16 (dA M.kh c3)), (b 8, eD aC 16 (dA M.kx M.xb)), (b 12, eZ aC 16 M.li), (b 13, eZ aC 16 M.hi)] := by rw [h1x, h2x, eU_z (V := 0) (Int.le_refl 0)] <;> rfl
        exact x_dret hx hb hr hlocks hQ (⟨by rw [h1x, h2x, uM_0, uE_0]; have q9 := ms_t (Int.lt_of_not_ge c_100); exact congrArg some (congrArg Value.double (congr (congrArg dM q9.1.symm) q9.2.symm)), s4, g1_4, g2_3, g3_3, g4_3, g5_3, p2_3, hw9⟩) rfl hP hS d_Mo_columnFault_108
  · have hkl := hM.kl i (by omega) (by omega)
    have hkx := hM.kx i (by omega) (by omega)
    have hkb := hM.xb i (by omega) (by omega)
    refine lv_aload_n hx hb d_Mo_columnFault_11 rfl (lv_at hl 1 rfl) ?_
    refine x_callV0F S (c_Mo_zero l D aC b M er p2 f) t_Mo_165 (rm_ok (by decide) (by decide)) hK hN hP hD hS [0] [6] rfl rfl (fun w9 hw => by obtain ⟨s5, rfl, hs5⟩ := hw; exact ⟨rfl, Nat.le_of_ble_eq_true rfl⟩) 1 6 rfl rfl rfl hl.1 rfl (Nat.le_of_ble_eq_true rfl) d_Mo_columnFault_12 ⟨Nat.zero_le _, Nat.zero_le _⟩ (fun w1 ws1 H locs e9 hw hP hD hS => ?_)
    obtain ⟨s5, rfl, hs5⟩ := hw
    have e9 : ws1 = [(b 16, eI aC 440 s5), (b 18, eI aC 1200 f1), (b 19, eI aC 1200 f2), (b 20, eI aC 1200 f3), (b 21, eI aC 1200 f4), (b 22, eI aC 1200 f5), (b 0, .inr (6, [.int (iI er), .int (iI M.rw), .int (iI M.cn), .int (iI M.en), .int (iI M.pr), .double (dM M.ko (-3)), .ref (b 1), .ref (b 2), .ref (b 3), .ref (b 4), .ref (b 5), .ref (b 6), .ref (b 7), .ref (b 8), .ref (b 9), .ref (b 10), .ref (b 11), .ref (b 12), .ref (b 13), .ref (b 14), .ref (b 15), .int (iI p2), .ref (b 16), .ref (b 17), .ref (b 18), .ref (b 19), .ref (b 20), .ref (b 21), .ref (b 22)])), (b 4, eD aC 16 (dA M.kl c3)), (b 5, eD aC 16 (dA M.kh c3)), (b 8, eD aC 16 (dA M.kx M.xb)), (b 12, eZ aC 16 M.li), (b 13, eZ aC 16 M.hi)] := e9
    subst e9
    refine lv_aload_n hx hb d_Mo_columnFault_15 rfl (lv_at hl 1 rfl) ?_
    refine lv_aload_n hx hb d_Mo_columnFault_16 rfl (lv_at hl 1 rfl) ?_
    refine va_get (D := D) (ci := 6) (v := .ref (b 4)) (C := R_Mo) (T := F_Mo) (N := 29) hx hb hts i_Mo hown hK hP 6 rfl rfl 9 (by decide) (hts _ wf_Mo_19) (fun _ h9 => h9) rfl d_Mo_columnFault_17 ?_
    refine lv_iload_n hx hb d_Mo_columnFault_20 rfl (lv_at hl 2 rfl) ?_
    refine x_dald hx hb hK hP 7 rfl (by omega) (by decide) d_Mo_columnFault_21 ?_
    refine x_topd _ _ (M.kl i) (-3) rfl ?_
    refine x_dconst1 hx hb d_Mo_columnFault_22 ?_
    refine x_dconst1 hx hb d_Mo_columnFault_23 ?_
    refine lv_iconst (v := iI 0) hx hb d_Mo_columnFault_24 rfl ?_
    refine lv_iconst (v := iI 0) hx hb d_Mo_columnFault_25 rfl ?_
    refine x_callV0F S (c_Mo_add l D aC b M er p2 s5 f1 f2 f3 f4 f5 (M.kl i) (-3) 1 0 1 0 0 0 0 (by omega) (by omega) (by omega) (by omega) (by omega) (by omega) (by omega) (by omega) hs5 (by omega)) t_Mo_168 (rm_ok (by decide) (by decide)) hK hN hP hD hS [0, 1, 2, 3, 4, 5, 6] [] rfl rfl (fun w9 hw => by obtain ⟨s6, g1_6, g2_6, g3_6, g4_6, g5_6, p2_6, rfl, hs6⟩ := hw; exact ⟨rfl, Nat.le_of_ble_eq_true rfl⟩) 6 6 rfl rfl rfl hl.1 rfl (Nat.le_of_ble_eq_true rfl) d_Mo_columnFault_26 ⟨Nat.zero_le _, Nat.zero_le _⟩ (fun w1 ws1 H locs e9 hw hP hD hS => ?_)
    obtain ⟨s6, g1_6, g2_6, g3_6, g4_6, g5_6, p2_6, rfl, hs6⟩ := hw
    have e9 : ws1 = [(b 16, eI aC 440 s6), (b 18, eI aC 1200 g1_6), (b 19, eI aC 1200 g2_6), (b 20, eI aC 1200 g3_6), (b 21, eI aC 1200 g4_6), (b 22, eI aC 1200 g5_6), (b 0, .inr (6, [.int (iI er), .int (iI M.rw), .int (iI M.cn), .int (iI M.en), .int (iI M.pr), .double (dM M.ko (-3)), .ref (b 1), .ref (b 2), .ref (b 3), .ref (b 4), .ref (b 5), .ref (b 6), .ref (b 7), .ref (b 8), .ref (b 9), .ref (b 10), .ref (b 11), .ref (b 12), .ref (b 13), .ref (b 14), .ref (b 15), .int (iI p2_6), .ref (b 16), .ref (b 17), .ref (b 18), .ref (b 19), .ref (b 20), .ref (b 21), .ref (b 22)])), (b 4, eD aC 16 (dA M.kl c3)), (b 5, eD aC 16 (dA M.kh c3)), (b 8, eD aC 16 (dA M.kx M.xb)), (b 12, eZ aC 16 M.li), (b 13, eZ aC 16 M.hi)] := e9
    subst e9
    refine lv_aload_n hx hb d_Mo_columnFault_29 rfl (lv_at hl 1 rfl) ?_
    refine lv_aload_n hx hb d_Mo_columnFault_30 rfl (lv_at hl 1 rfl) ?_
    refine va_get (D := D) (ci := 6) (v := .ref (b 8)) (C := R_Mo) (T := F_Mo) (N := 29) hx hb hts i_Mo hown hK hP 6 rfl rfl 13 (by decide) (hts _ wf_Mo_31) (fun _ h9 => h9) rfl d_Mo_columnFault_31 ?_
    refine lv_iload_n hx hb d_Mo_columnFault_34 rfl (lv_at hl 2 rfl) ?_
    refine x_dald hx hb hK hP 9 rfl (by omega) (by decide) d_Mo_columnFault_35 ?_
    refine x_dconst1 hx hb d_Mo_columnFault_36 ?_
    refine x_dconst1 hx hb d_Mo_columnFault_37 ?_
    refine lv_iconst (v := iI 0) hx hb d_Mo_columnFault_38 rfl ?_
    refine lv_iconst (v := iI 1) hx hb d_Mo_columnFault_39 rfl ?_
    refine x_callV0F S (c_Mo_add l D aC b M er p2_6 s6 g1_6 g2_6 g3_6 g4_6 g5_6 (M.kx i) (M.xb i) 1 0 1 0 0 1 (0 + U3 0 (M.kl i) (-3) 1 0 1 0 0) (by omega) (by omega) (by omega) (by omega) (by omega) (by omega) (by omega) (by omega) hs6 (by omega)) t_Mo_168 (rm_ok (by decide) (by decide)) hK hN hP hD hS [0, 1, 2, 3, 4, 5, 6] [] rfl rfl (fun w9 hw => by obtain ⟨s7, g1_7, g2_7, g3_7, g4_7, g5_7, p2_7, rfl, hs7⟩ := hw; exact ⟨rfl, Nat.le_of_ble_eq_true rfl⟩) 6 6 rfl rfl rfl hl.1 rfl (Nat.le_of_ble_eq_true rfl) d_Mo_columnFault_40 ⟨Nat.zero_le _, Nat.zero_le _⟩ (fun w1 ws1 H locs e9 hw hP hD hS => ?_)
    obtain ⟨s7, g1_7, g2_7, g3_7, g4_7, g5_7, p2_7, rfl, hs7⟩ := hw
    have e9 : ws1 = [(b 16, eI aC 440 s7), (b 18, eI aC 1200 g1_7), (b 19, eI aC 1200 g2_7), (b 20, eI aC 1200 g3_7), (b 21, eI aC 1200 g4_7), (b 22, eI aC 1200 g5_7), (b 0, .inr (6, [.int (iI er), .int (iI M.rw), .int (iI M.cn), .int (iI M.en), .int (iI M.pr), .double (dM M.ko (-3)), .ref (b 1), .ref (b 2), .ref (b 3), .ref (b 4), .ref (b 5), .ref (b 6), .ref (b 7), .ref (b 8), .ref (b 9), .ref (b 10), .ref (b 11), .ref (b 12), .ref (b 13), .ref (b 14), .ref (b 15), .int (iI p2_7), .ref (b 16), .ref (b 17), .ref (b 18), .ref (b 19), .ref (b 20), .ref (b 21), .ref (b 22)])), (b 4, eD aC 16 (dA M.kl c3)), (b 5, eD aC 16 (dA M.kh c3)), (b 8, eD aC 16 (dA M.kx M.xb)), (b 12, eZ aC 16 M.li), (b 13, eZ aC 16 M.hi)] := e9
    subst e9
    refine lv_aload_n hx hb d_Mo_columnFault_43 rfl (lv_at hl 1 rfl) ?_
    refine lv_iconst (v := iI 0) hx hb d_Mo_columnFault_44 rfl ?_
    refine x_callV1F (V := .double (dM (uM (po (0 + U3 0 (M.kl i) (-3) 1 0 1 0 0 + U3 1 (M.kx i) (M.xb i) 1 0 1 0 0))) (uE (po (0 + U3 0 (M.kl i) (-3) 1 0 1 0 0 + U3 1 (M.kx i) (M.xb i) 1 0 1 0 0))))) S (c_Mo_excess_0 l D aC b M er p2_7 (by omega) s7 g1_7 (0 + U3 0 (M.kl i) (-3) 1 0 1 0 0 + U3 1 (M.kx i) (M.xb i) 1 0 1 0 0) hs7 (by first | exact (B_cL hM (i := i) (by omega)).big (by decide) | exact (B_cH hM (i := i) (by omega)).big (by decide))) t_Mo_183 (rm_ok (by decide) (by decide)) hK hN hP hD hS [0, 1, 6] [] rfl rfl (fun w9 hw => by obtain ⟨s8, g1_8, rfl⟩ := hw; exact ⟨rfl, Nat.le_of_ble_eq_true rfl⟩) 2 6 rfl rfl rfl hl.1 rfl (Nat.le_of_ble_eq_true rfl) d_Mo_columnFault_45 ⟨Nat.zero_le _, Nat.zero_le _⟩ (fun w1 ws1 H locs e9 hw hP hD hS => ?_)
    obtain ⟨s8, g1_8, rfl⟩ := hw
    have e9 : ws1 = [(b 16, eI aC 440 s8), (b 18, eI aC 1200 g1_8), (b 19, eI aC 1200 g2_7), (b 20, eI aC 1200 g3_7), (b 21, eI aC 1200 g4_7), (b 22, eI aC 1200 g5_7), (b 0, .inr (6, [.int (iI (eU er (po (0 + U3 0 (M.kl i) (-3) 1 0 1 0 0 + U3 1 (M.kx i) (M.xb i) 1 0 1 0 0)))), .int (iI M.rw), .int (iI M.cn), .int (iI M.en), .int (iI M.pr), .double (dM M.ko (-3)), .ref (b 1), .ref (b 2), .ref (b 3), .ref (b 4), .ref (b 5), .ref (b 6), .ref (b 7), .ref (b 8), .ref (b 9), .ref (b 10), .ref (b 11), .ref (b 12), .ref (b 13), .ref (b 14), .ref (b 15), .int (iI p2_7), .ref (b 16), .ref (b 17), .ref (b 18), .ref (b 19), .ref (b 20), .ref (b 21), .ref (b 22)])), (b 4, eD aC 16 (dA M.kl c3)), (b 5, eD aC 16 (dA M.kh c3)), (b 8, eD aC 16 (dA M.kx M.xb)), (b 12, eZ aC 16 M.li), (b 13, eZ aC 16 M.hi)] := e9
    subst e9
    have hu8 := eU_r (er := er) (V := po (0 + U3 0 (M.kl i) (-3) 1 0 1 0 0 + U3 1 (M.kx i) (M.xb i) 1 0 1 0 0)) (by omega)
    have hok8 := u_ok (V := po (0 + U3 0 (M.kl i) (-3) 1 0 1 0 0 + U3 1 (M.kx i) (M.xb i) 1 0 1 0 0))
    refine lv_dstore_n (lv' := [(2, .double (dM (uM (po (0 + U3 0 (M.kl i) (-3) 1 0 1 0 0 + U3 1 (M.kx i) (M.xb i) 1 0 1 0 0))) (uE (po (0 + U3 0 (M.kl i) (-3) 1 0 1 0 0 + U3 1 (M.kx i) (M.xb i) 1 0 1 0 0))))), (0, .ref (b 0)), (1, .int (iI i))]) hx hb d_Mo_columnFault_48 rfl hl (by decide) rfl (fun ls hl => ?_)
    refine lv_aload_n hx hb d_Mo_columnFault_49 rfl (lv_at hl 1 rfl) ?_
    refine va_get (D := D) (ci := 6) (v := .ref (b 13)) (C := R_Mo) (T := F_Mo) (N := 29) hx hb hts i_Mo hown hK hP 6 rfl rfl 18 (by decide) (hts _ wf_Mo_47) (fun _ h9 => h9) rfl d_Mo_columnFault_50 ?_
    refine lv_iload_n hx hb d_Mo_columnFault_53 rfl (lv_at hl 2 rfl) ?_
    have hz2 := hM.hi i (by omega) (by omega)
    refine x_zald hx hb hK hP 11 rfl (by omega) (by decide) d_Mo_columnFault_54 ?_
    refine x_if_eq (tgt := 107) hx hb d_Mo_columnFault_55 (by decide) (by omega) (fun c_55 => ?_) (fun c_55 => ?_)
    · refine lv_dload_n hx hb d_Mo_columnFault_107 rfl (lv_at hl 0 rfl) ?_
      have h1x : xcL M i = _ := if_pos c_8
      have h2x : xcH M i = _ := if_neg (fun z => z c_55)
      have hw9 : [(b 16, eI aC 440 s8), (b 18, eI aC 1200 g1_8), (b 19, eI aC 1200 g2_7), (b 20, eI aC 1200 g3_7), (b 21, eI aC 1200 g4_7), (b 22, eI aC 1200 g5_7), (b 0, .inr (6, [.int (iI (eU er (po (0 + U3 0 (M.kl i) (-3) 1 0 1 0 0 + U3 1 (M.kx i) (M.xb i) 1 0 1 0 0)))), .int (iI M.rw), .int (iI M.cn), .int (iI M.en), .int (iI M.pr), .double (dM M.ko (-3)), .ref (b 1), .ref (b 2), .ref (b 3), .ref (b 4), .ref (b 5), .ref (b 6), .ref (b 7), .ref (b 8), .ref (b 9), .ref (b 10), .ref (b 11), .ref (b 12), .ref (b 13), .ref (b 14), .ref (b 15), .int (iI p2_7), .ref (b 16), .ref (b 17), .ref (b 18), .ref (b 19), .ref (b 20), .ref (b 21), .ref (b 22)])), (b 4, eD aC 16 (dA M.kl c3)), (b 5, eD aC 16 (dA M.kh c3)), (b 8, eD aC 16 (dA M.kx M.xb)), (b 12, eZ aC 16 M.li), (b 13, eZ aC 16 M.hi)] = [(b 16, eI aC 440 s8), (b 18, eI aC 1200 g1_8), (b 19, eI aC 1200 g2_7), (b 20, eI aC 1200 g3_7), (b 21, eI aC 1200 g4_7), (b 22, eI aC 1200 g5_7), (b 0, .inr (6, [.int (iI (eU (eU er (xcL M i)) (xcH M i))), .int (iI M.rw), .int (iI M.cn), .int (iI M.en), .int (iI M.pr), .double (dM M.ko (-3)), .ref (b 1), .ref (b 2), .ref (b 3), .ref (b 4), .ref (b 5), .ref (b 6), .ref (b 7), .ref (b 8), .ref (b 9), .ref (b 10), .ref (b 11), .ref (b 12), .ref (b 13), .ref (b 14), .ref (b 15), .int (iI p2_7), .ref (b 16), .ref (b 17), .ref (b 18), .ref (b 19), .ref (b 20), .ref (b 21), .ref (b 22)])), (b 4, eD aC 16 (dA M.kl c3)), (b 5, eD aC 16 (dA M.kh c3)), (b 8, eD aC 16 (dA M.kx M.xb)), (b 12, eZ aC 16 M.li), (b 13, eZ aC 16 M.hi)] := by rw [h1x, h2x, eU_z (V := 0) (Int.le_refl 0)] <;> rfl
      exact x_dret hx hb hr hlocks hQ (⟨by rw [h2x, (ms_0 (V := xcL M i) (by rw [h1x]; exact po_nn _)).1, (ms_0 (V := xcL M i) (by rw [h1x]; exact po_nn _)).2, h1x] <;> rfl, s8, g1_8, g2_7, g3_7, g4_7, g5_7, p2_7, hw9⟩) rfl hP hS d_Mo_columnFault_108
    · have hkh := hM.kh i (by omega) (by omega)
      have hkx := hM.kx i (by omega) (by omega)
      have hkb := hM.xb i (by omega) (by omega)
      refine lv_aload_n hx hb d_Mo_columnFault_58 rfl (lv_at hl 1 rfl) ?_
      refine x_callV0F S (c_Mo_zero l D aC b M (eU er (po (0 + U3 0 (M.kl i) (-3) 1 0 1 0 0 + U3 1 (M.kx i) (M.xb i) 1 0 1 0 0))) p2_7 s8) t_Mo_165 (rm_ok (by decide) (by decide)) hK hN hP hD hS [0] [6] rfl rfl (fun w9 hw => by obtain ⟨s9, rfl, hs9⟩ := hw; exact ⟨rfl, Nat.le_of_ble_eq_true rfl⟩) 1 6 rfl rfl rfl hl.1 rfl (Nat.le_of_ble_eq_true rfl) d_Mo_columnFault_59 ⟨Nat.zero_le _, Nat.zero_le _⟩ (fun w1 ws1 H locs e9 hw hP hD hS => ?_)
      obtain ⟨s9, rfl, hs9⟩ := hw
      have e9 : ws1 = [(b 16, eI aC 440 s9), (b 18, eI aC 1200 g1_8), (b 19, eI aC 1200 g2_7), (b 20, eI aC 1200 g3_7), (b 21, eI aC 1200 g4_7), (b 22, eI aC 1200 g5_7), (b 0, .inr (6, [.int (iI (eU er (po (0 + U3 0 (M.kl i) (-3) 1 0 1 0 0 + U3 1 (M.kx i) (M.xb i) 1 0 1 0 0)))), .int (iI M.rw), .int (iI M.cn), .int (iI M.en), .int (iI M.pr), .double (dM M.ko (-3)), .ref (b 1), .ref (b 2), .ref (b 3), .ref (b 4), .ref (b 5), .ref (b 6), .ref (b 7), .ref (b 8), .ref (b 9), .ref (b 10), .ref (b 11), .ref (b 12), .ref (b 13), .ref (b 14), .ref (b 15), .int (iI p2_7), .ref (b 16), .ref (b 17), .ref (b 18), .ref (b 19), .ref (b 20), .ref (b 21), .ref (b 22)])), (b 4, eD aC 16 (dA M.kl c3)), (b 5, eD aC 16 (dA M.kh c3)), (b 8, eD aC 16 (dA M.kx M.xb)), (b 12, eZ aC 16 M.li), (b 13, eZ aC 16 M.hi)] := e9
      subst e9
      refine lv_aload_n hx hb d_Mo_columnFault_62 rfl (lv_at hl 1 rfl) ?_
      refine lv_aload_n hx hb d_Mo_columnFault_63 rfl (lv_at hl 1 rfl) ?_
      refine va_get (D := D) (ci := 6) (v := .ref (b 8)) (C := R_Mo) (T := F_Mo) (N := 29) hx hb hts i_Mo hown hK hP 6 rfl rfl 13 (by decide) (hts _ wf_Mo_31) (fun _ h9 => h9) rfl d_Mo_columnFault_64 ?_
      refine lv_iload_n hx hb d_Mo_columnFault_67 rfl (lv_at hl 2 rfl) ?_
      refine x_dald hx hb hK hP 9 rfl (by omega) (by decide) d_Mo_columnFault_68 ?_
      refine x_dconst1 hx hb d_Mo_columnFault_69 ?_
      refine x_dconst1 hx hb d_Mo_columnFault_70 ?_
      refine lv_iconst (v := iI 0) hx hb d_Mo_columnFault_71 rfl ?_
      refine lv_iconst (v := iI 0) hx hb d_Mo_columnFault_72 rfl ?_
      refine x_callV0F S (c_Mo_add l D aC b M (eU er (po (0 + U3 0 (M.kl i) (-3) 1 0 1 0 0 + U3 1 (M.kx i) (M.xb i) 1 0 1 0 0))) p2_7 s9 g1_8 g2_7 g3_7 g4_7 g5_7 (M.kx i) (M.xb i) 1 0 1 0 0 0 0 (by omega) (by omega) (by omega) (by omega) (by omega) (by omega) (by omega) (by omega) hs9 (by omega)) t_Mo_168 (rm_ok (by decide) (by decide)) hK hN hP hD hS [0, 1, 2, 3, 4, 5, 6] [] rfl rfl (fun w9 hw => by obtain ⟨s10, g1_10, g2_10, g3_10, g4_10, g5_10, p2_10, rfl, hs10⟩ := hw; exact ⟨rfl, Nat.le_of_ble_eq_true rfl⟩) 6 6 rfl rfl rfl hl.1 rfl (Nat.le_of_ble_eq_true rfl) d_Mo_columnFault_73 ⟨Nat.zero_le _, Nat.zero_le _⟩ (fun w1 ws1 H locs e9 hw hP hD hS => ?_)
      obtain ⟨s10, g1_10, g2_10, g3_10, g4_10, g5_10, p2_10, rfl, hs10⟩ := hw
      have e9 : ws1 = [(b 16, eI aC 440 s10), (b 18, eI aC 1200 g1_10), (b 19, eI aC 1200 g2_10), (b 20, eI aC 1200 g3_10), (b 21, eI aC 1200 g4_10), (b 22, eI aC 1200 g5_10), (b 0, .inr (6, [.int (iI (eU er (po (0 + U3 0 (M.kl i) (-3) 1 0 1 0 0 + U3 1 (M.kx i) (M.xb i) 1 0 1 0 0)))), .int (iI M.rw), .int (iI M.cn), .int (iI M.en), .int (iI M.pr), .double (dM M.ko (-3)), .ref (b 1), .ref (b 2), .ref (b 3), .ref (b 4), .ref (b 5), .ref (b 6), .ref (b 7), .ref (b 8), .ref (b 9), .ref (b 10), .ref (b 11), .ref (b 12), .ref (b 13), .ref (b 14), .ref (b 15), .int (iI p2_10), .ref (b 16), .ref (b 17), .ref (b 18), .ref (b 19), .ref (b 20), .ref (b 21), .ref (b 22)])), (b 4, eD aC 16 (dA M.kl c3)), (b 5, eD aC 16 (dA M.kh c3)), (b 8, eD aC 16 (dA M.kx M.xb)), (b 12, eZ aC 16 M.li), (b 13, eZ aC 16 M.hi)] := e9
      subst e9
      refine lv_aload_n hx hb d_Mo_columnFault_76 rfl (lv_at hl 1 rfl) ?_
      refine lv_aload_n hx hb d_Mo_columnFault_77 rfl (lv_at hl 1 rfl) ?_
      refine va_get (D := D) (ci := 6) (v := .ref (b 5)) (C := R_Mo) (T := F_Mo) (N := 29) hx hb hts i_Mo hown hK hP 6 rfl rfl 10 (by decide) (hts _ wf_Mo_22) (fun _ h9 => h9) rfl d_Mo_columnFault_78 ?_
      refine lv_iload_n hx hb d_Mo_columnFault_81 rfl (lv_at hl 2 rfl) ?_
      refine x_dald hx hb hK hP 8 rfl (by omega) (by decide) d_Mo_columnFault_82 ?_
      refine x_topd _ _ (M.kh i) (-3) rfl ?_
      refine x_dconst1 hx hb d_Mo_columnFault_83 ?_
      refine x_dconst1 hx hb d_Mo_columnFault_84 ?_
      refine lv_iconst (v := iI 0) hx hb d_Mo_columnFault_85 rfl ?_
      refine lv_iconst (v := iI 1) hx hb d_Mo_columnFault_86 rfl ?_
      refine x_callV0F S (c_Mo_add l D aC b M (eU er (po (0 + U3 0 (M.kl i) (-3) 1 0 1 0 0 + U3 1 (M.kx i) (M.xb i) 1 0 1 0 0))) p2_10 s10 g1_10 g2_10 g3_10 g4_10 g5_10 (M.kh i) (-3) 1 0 1 0 0 1 (0 + U3 0 (M.kx i) (M.xb i) 1 0 1 0 0) (by omega) (by omega) (by omega) (by omega) (by omega) (by omega) (by omega) (by omega) hs10 (by omega)) t_Mo_168 (rm_ok (by decide) (by decide)) hK hN hP hD hS [0, 1, 2, 3, 4, 5, 6] [] rfl rfl (fun w9 hw => by obtain ⟨s11, g1_11, g2_11, g3_11, g4_11, g5_11, p2_11, rfl, hs11⟩ := hw; exact ⟨rfl, Nat.le_of_ble_eq_true rfl⟩) 6 6 rfl rfl rfl hl.1 rfl (Nat.le_of_ble_eq_true rfl) d_Mo_columnFault_87 ⟨Nat.zero_le _, Nat.zero_le _⟩ (fun w1 ws1 H locs e9 hw hP hD hS => ?_)
      obtain ⟨s11, g1_11, g2_11, g3_11, g4_11, g5_11, p2_11, rfl, hs11⟩ := hw
      have e9 : ws1 = [(b 16, eI aC 440 s11), (b 18, eI aC 1200 g1_11), (b 19, eI aC 1200 g2_11), (b 20, eI aC 1200 g3_11), (b 21, eI aC 1200 g4_11), (b 22, eI aC 1200 g5_11), (b 0, .inr (6, [.int (iI (eU er (po (0 + U3 0 (M.kl i) (-3) 1 0 1 0 0 + U3 1 (M.kx i) (M.xb i) 1 0 1 0 0)))), .int (iI M.rw), .int (iI M.cn), .int (iI M.en), .int (iI M.pr), .double (dM M.ko (-3)), .ref (b 1), .ref (b 2), .ref (b 3), .ref (b 4), .ref (b 5), .ref (b 6), .ref (b 7), .ref (b 8), .ref (b 9), .ref (b 10), .ref (b 11), .ref (b 12), .ref (b 13), .ref (b 14), .ref (b 15), .int (iI p2_11), .ref (b 16), .ref (b 17), .ref (b 18), .ref (b 19), .ref (b 20), .ref (b 21), .ref (b 22)])), (b 4, eD aC 16 (dA M.kl c3)), (b 5, eD aC 16 (dA M.kh c3)), (b 8, eD aC 16 (dA M.kx M.xb)), (b 12, eZ aC 16 M.li), (b 13, eZ aC 16 M.hi)] := e9
      subst e9
      refine lv_aload_n hx hb d_Mo_columnFault_90 rfl (lv_at hl 1 rfl) ?_
      refine lv_iconst (v := iI 0) hx hb d_Mo_columnFault_91 rfl ?_
      refine x_callV1F (V := .double (dM (uM (po (0 + U3 0 (M.kx i) (M.xb i) 1 0 1 0 0 + U3 1 (M.kh i) (-3) 1 0 1 0 0))) (uE (po (0 + U3 0 (M.kx i) (M.xb i) 1 0 1 0 0 + U3 1 (M.kh i) (-3) 1 0 1 0 0))))) S (c_Mo_excess_0 l D aC b M (eU er (po (0 + U3 0 (M.kl i) (-3) 1 0 1 0 0 + U3 1 (M.kx i) (M.xb i) 1 0 1 0 0))) p2_11 (by omega) s11 g1_11 (0 + U3 0 (M.kx i) (M.xb i) 1 0 1 0 0 + U3 1 (M.kh i) (-3) 1 0 1 0 0) hs11 (by first | exact (B_cL hM (i := i) (by omega)).big (by decide) | exact (B_cH hM (i := i) (by omega)).big (by decide))) t_Mo_183 (rm_ok (by decide) (by decide)) hK hN hP hD hS [0, 1, 6] [] rfl rfl (fun w9 hw => by obtain ⟨s12, g1_12, rfl⟩ := hw; exact ⟨rfl, Nat.le_of_ble_eq_true rfl⟩) 2 6 rfl rfl rfl hl.1 rfl (Nat.le_of_ble_eq_true rfl) d_Mo_columnFault_92 ⟨Nat.zero_le _, Nat.zero_le _⟩ (fun w1 ws1 H locs e9 hw hP hD hS => ?_)
      obtain ⟨s12, g1_12, rfl⟩ := hw
      have e9 : ws1 = [(b 16, eI aC 440 s12), (b 18, eI aC 1200 g1_12), (b 19, eI aC 1200 g2_11), (b 20, eI aC 1200 g3_11), (b 21, eI aC 1200 g4_11), (b 22, eI aC 1200 g5_11), (b 0, .inr (6, [.int (iI (eU (eU er (po (0 + U3 0 (M.kl i) (-3) 1 0 1 0 0 + U3 1 (M.kx i) (M.xb i) 1 0 1 0 0))) (po (0 + U3 0 (M.kx i) (M.xb i) 1 0 1 0 0 + U3 1 (M.kh i) (-3) 1 0 1 0 0)))), .int (iI M.rw), .int (iI M.cn), .int (iI M.en), .int (iI M.pr), .double (dM M.ko (-3)), .ref (b 1), .ref (b 2), .ref (b 3), .ref (b 4), .ref (b 5), .ref (b 6), .ref (b 7), .ref (b 8), .ref (b 9), .ref (b 10), .ref (b 11), .ref (b 12), .ref (b 13), .ref (b 14), .ref (b 15), .int (iI p2_11), .ref (b 16), .ref (b 17), .ref (b 18), .ref (b 19), .ref (b 20), .ref (b 21), .ref (b 22)])), (b 4, eD aC 16 (dA M.kl c3)), (b 5, eD aC 16 (dA M.kh c3)), (b 8, eD aC 16 (dA M.kx M.xb)), (b 12, eZ aC 16 M.li), (b 13, eZ aC 16 M.hi)] := e9
      subst e9
      have hu12 := eU_r (er := eU er (po (0 + U3 0 (M.kl i) (-3) 1 0 1 0 0 + U3 1 (M.kx i) (M.xb i) 1 0 1 0 0))) (V := po (0 + U3 0 (M.kx i) (M.xb i) 1 0 1 0 0 + U3 1 (M.kh i) (-3) 1 0 1 0 0)) (by omega)
      have hok12 := u_ok (V := po (0 + U3 0 (M.kx i) (M.xb i) 1 0 1 0 0 + U3 1 (M.kh i) (-3) 1 0 1 0 0))
      refine lv_dstore (lv' := [(4, .double (dM (uM (po (0 + U3 0 (M.kx i) (M.xb i) 1 0 1 0 0 + U3 1 (M.kh i) (-3) 1 0 1 0 0))) (uE (po (0 + U3 0 (M.kx i) (M.xb i) 1 0 1 0 0 + U3 1 (M.kh i) (-3) 1 0 1 0 0))))), (2, .double (dM (uM (po (0 + U3 0 (M.kl i) (-3) 1 0 1 0 0 + U3 1 (M.kx i) (M.xb i) 1 0 1 0 0))) (uE (po (0 + U3 0 (M.kl i) (-3) 1 0 1 0 0 + U3 1 (M.kx i) (M.xb i) 1 0 1 0 0))))), (0, .ref (b 0)), (1, .int (iI i))]) hx hb d_Mo_columnFault_95 hl (by decide) rfl (fun ls hl => ?_)
      refine lv_dload hx hb d_Mo_columnFault_97 (lv_at hl 0 rfl) ?_
      refine lv_dload_n hx hb d_Mo_columnFault_99 rfl (lv_at hl 1 rfl) ?_
      refine x_dcmp_le (tgt := 107) hx hb d_Mo_columnFault_100 d_Mo_columnFault_101 (by decide) (by first | assumption | exact dOk_0) (by first | assumption | exact dOk_0) (fun c_100 => ?_) (fun c_100 => ?_)
      · refine lv_dload_n hx hb d_Mo_columnFault_107 rfl (lv_at hl 1 rfl) ?_
        have h1x : xcL M i = _ := if_pos c_8
        have h2x : xcH M i = _ := if_pos c_55
        have hw9 : [(b 16, eI aC 440 s12), (b 18, eI aC 1200 g1_12), (b 19, eI aC 1200 g2_11), (b 20, eI aC 1200 g3_11), (b 21, eI aC 1200 g4_11), (b 22, eI aC 1200 g5_11), (b 0, .inr (6, [.int (iI (eU (eU er (po (0 + U3 0 (M.kl i) (-3) 1 0 1 0 0 + U3 1 (M.kx i) (M.xb i) 1 0 1 0 0))) (po (0 + U3 0 (M.kx i) (M.xb i) 1 0 1 0 0 + U3 1 (M.kh i) (-3) 1 0 1 0 0)))), .int (iI M.rw), .int (iI M.cn), .int (iI M.en), .int (iI M.pr), .double (dM M.ko (-3)), .ref (b 1), .ref (b 2), .ref (b 3), .ref (b 4), .ref (b 5), .ref (b 6), .ref (b 7), .ref (b 8), .ref (b 9), .ref (b 10), .ref (b 11), .ref (b 12), .ref (b 13), .ref (b 14), .ref (b 15), .int (iI p2_11), .ref (b 16), .ref (b 17), .ref (b 18), .ref (b 19), .ref (b 20), .ref (b 21), .ref (b 22)])), (b 4, eD aC 16 (dA M.kl c3)), (b 5, eD aC 16 (dA M.kh c3)), (b 8, eD aC 16 (dA M.kx M.xb)), (b 12, eZ aC 16 M.li), (b 13, eZ aC 16 M.hi)] = [(b 16, eI aC 440 s12), (b 18, eI aC 1200 g1_12), (b 19, eI aC 1200 g2_11), (b 20, eI aC 1200 g3_11), (b 21, eI aC 1200 g4_11), (b 22, eI aC 1200 g5_11), (b 0, .inr (6, [.int (iI (eU (eU er (xcL M i)) (xcH M i))), .int (iI M.rw), .int (iI M.cn), .int (iI M.en), .int (iI M.pr), .double (dM M.ko (-3)), .ref (b 1), .ref (b 2), .ref (b 3), .ref (b 4), .ref (b 5), .ref (b 6), .ref (b 7), .ref (b 8), .ref (b 9), .ref (b 10), .ref (b 11), .ref (b 12), .ref (b 13), .ref (b 14), .ref (b 15), .int (iI p2_11), .ref (b 16), .ref (b 17), .ref (b 18), .ref (b 19), .ref (b 20), .ref (b 21), .ref (b 22)])), (b 4, eD aC 16 (dA M.kl c3)), (b 5, eD aC 16 (dA M.kh c3)), (b 8, eD aC 16 (dA M.kx M.xb)), (b 12, eZ aC 16 M.li), (b 13, eZ aC 16 M.hi)] := by rw [h1x, h2x] <;> rfl
        exact x_dret hx hb hr hlocks hQ (⟨by rw [h1x, h2x]; have q9 := ms_f (fun z => absurd (Int.lt_of_lt_of_le z c_100) (Int.lt_irrefl _)); exact congrArg some (congrArg Value.double (congr (congrArg dM q9.1.symm) q9.2.symm)), s12, g1_12, g2_11, g3_11, g4_11, g5_11, p2_11, hw9⟩) rfl hP hS d_Mo_columnFault_108
      · refine lv_dload hx hb d_Mo_columnFault_104 (lv_at hl 0 rfl) ?_
        refine lv_dstore_n (lv' := [(2, .double (dM (uM (po (0 + U3 0 (M.kx i) (M.xb i) 1 0 1 0 0 + U3 1 (M.kh i) (-3) 1 0 1 0 0))) (uE (po (0 + U3 0 (M.kx i) (M.xb i) 1 0 1 0 0 + U3 1 (M.kh i) (-3) 1 0 1 0 0))))), (4, .double (dM (uM (po (0 + U3 0 (M.kx i) (M.xb i) 1 0 1 0 0 + U3 1 (M.kh i) (-3) 1 0 1 0 0))) (uE (po (0 + U3 0 (M.kx i) (M.xb i) 1 0 1 0 0 + U3 1 (M.kh i) (-3) 1 0 1 0 0))))), (0, .ref (b 0)), (1, .int (iI i))]) hx hb d_Mo_columnFault_106 rfl hl (by decide) rfl (fun ls hl => ?_)
        refine lv_dload_n hx hb d_Mo_columnFault_107 rfl (lv_at hl 0 rfl) ?_
        have h1x : xcL M i = _ := if_pos c_8
        have h2x : xcH M i = _ := if_pos c_55
        have hw9 : [(b 16, eI aC 440 s12), (b 18, eI aC 1200 g1_12), (b 19, eI aC 1200 g2_11), (b 20, eI aC 1200 g3_11), (b 21, eI aC 1200 g4_11), (b 22, eI aC 1200 g5_11), (b 0, .inr (6, [.int (iI (eU (eU er (po (0 + U3 0 (M.kl i) (-3) 1 0 1 0 0 + U3 1 (M.kx i) (M.xb i) 1 0 1 0 0))) (po (0 + U3 0 (M.kx i) (M.xb i) 1 0 1 0 0 + U3 1 (M.kh i) (-3) 1 0 1 0 0)))), .int (iI M.rw), .int (iI M.cn), .int (iI M.en), .int (iI M.pr), .double (dM M.ko (-3)), .ref (b 1), .ref (b 2), .ref (b 3), .ref (b 4), .ref (b 5), .ref (b 6), .ref (b 7), .ref (b 8), .ref (b 9), .ref (b 10), .ref (b 11), .ref (b 12), .ref (b 13), .ref (b 14), .ref (b 15), .int (iI p2_11), .ref (b 16), .ref (b 17), .ref (b 18), .ref (b 19), .ref (b 20), .ref (b 21), .ref (b 22)])), (b 4, eD aC 16 (dA M.kl c3)), (b 5, eD aC 16 (dA M.kh c3)), (b 8, eD aC 16 (dA M.kx M.xb)), (b 12, eZ aC 16 M.li), (b 13, eZ aC 16 M.hi)] = [(b 16, eI aC 440 s12), (b 18, eI aC 1200 g1_12), (b 19, eI aC 1200 g2_11), (b 20, eI aC 1200 g3_11), (b 21, eI aC 1200 g4_11), (b 22, eI aC 1200 g5_11), (b 0, .inr (6, [.int (iI (eU (eU er (xcL M i)) (xcH M i))), .int (iI M.rw), .int (iI M.cn), .int (iI M.en), .int (iI M.pr), .double (dM M.ko (-3)), .ref (b 1), .ref (b 2), .ref (b 3), .ref (b 4), .ref (b 5), .ref (b 6), .ref (b 7), .ref (b 8), .ref (b 9), .ref (b 10), .ref (b 11), .ref (b 12), .ref (b 13), .ref (b 14), .ref (b 15), .int (iI p2_11), .ref (b 16), .ref (b 17), .ref (b 18), .ref (b 19), .ref (b 20), .ref (b 21), .ref (b 22)])), (b 4, eD aC 16 (dA M.kl c3)), (b 5, eD aC 16 (dA M.kh c3)), (b 8, eD aC 16 (dA M.kx M.xb)), (b 12, eZ aC 16 M.li), (b 13, eZ aC 16 M.hi)] := by rw [h1x, h2x] <;> rfl
        exact x_dret hx hb hr hlocks hQ (⟨by rw [h1x, h2x]; have q9 := ms_t (Int.lt_of_not_ge c_100); exact congrArg some (congrArg Value.double (congr (congrArg dM q9.1.symm) q9.2.symm)), s12, g1_12, g2_11, g3_11, g4_11, g5_11, p2_11, hw9⟩) rfl hP hS d_Mo_columnFault_108
set_option maxHeartbeats 4000000 in
set_option maxRecDepth 100000 in
theorem c_Mo_dualFault (l : Launch) (D : va_G) (aC : Nat → ClassId) (b : Nat → Nat) (M : MS) (hM : MI M) (er p2 : Int) (her : 0 ≤ er ∧ er ≤ 3) (f f1 f2 f3 f4 f5 : Int → Int) (i : Int) (hi : 0 ≤ i ∧ i < 16) : CT l D aC y_Mo_dualFault (rd 4 119) [.ref (b 0), .int (iI i)] [(b 16, eI aC 440 f), (b 18, eI aC 1200 f1), (b 19, eI aC 1200 f2), (b 20, eI aC 1200 f3), (b 21, eI aC 1200 f4), (b 22, eI aC 1200 f5), (b 0, .inr (6, [.int (iI er), .int (iI M.rw), .int (iI M.cn), .int (iI M.en), .int (iI M.pr), .double (dM M.ko (-3)), .ref (b 1), .ref (b 2), .ref (b 3), .ref (b 4), .ref (b 5), .ref (b 6), .ref (b 7), .ref (b 8), .ref (b 9), .ref (b 10), .ref (b 11), .ref (b 12), .ref (b 13), .ref (b 14), .ref (b 15), .int (iI p2), .ref (b 16), .ref (b 17), .ref (b 18), .ref (b 19), .ref (b 20), .ref (b 21), .ref (b 22)])), (b 1, eD aC 192 (dA M.ka c3)), (b 2, eD aC 16 (dA M.kc c3)), (b 3, eD aC 256 (dA M.kq c3)), (b 8, eD aC 16 (dA M.kx M.xb)), (b 9, eD aC 12 (dA M.ky M.yb)), (b 10, eZ aC 192 M.ai), (b 11, eZ aC 256 M.qi), (b 12, eZ aC 16 M.li), (b 13, eZ aC 16 M.hi)] (fun v w => v = some (.double (dM (uM (xd M i)) (uE (xd M i)))) ∧ ∃ (h g1 g2 g3 g4 g5 : Int → Int) (p2' : Int), w = [(b 16, eI aC 440 h), (b 18, eI aC 1200 g1), (b 19, eI aC 1200 g2), (b 20, eI aC 1200 g3), (b 21, eI aC 1200 g4), (b 22, eI aC 1200 g5), (b 0, .inr (6, [.int (iI (eU er (xd M i))), .int (iI M.rw), .int (iI M.cn), .int (iI M.en), .int (iI M.pr), .double (dM M.ko (-3)), .ref (b 1), .ref (b 2), .ref (b 3), .ref (b 4), .ref (b 5), .ref (b 6), .ref (b 7), .ref (b 8), .ref (b 9), .ref (b 10), .ref (b 11), .ref (b 12), .ref (b 13), .ref (b 14), .ref (b 15), .int (iI p2'), .ref (b 16), .ref (b 17), .ref (b 18), .ref (b 19), .ref (b 20), .ref (b 21), .ref (b 22)])), (b 1, eD aC 192 (dA M.ka c3)), (b 2, eD aC 16 (dA M.kc c3)), (b 3, eD aC 256 (dA M.kq c3)), (b 8, eD aC 16 (dA M.kx M.xb)), (b 9, eD aC 12 (dA M.ky M.yb)), (b 10, eZ aC 192 M.ai), (b 11, eZ aC 256 M.qi), (b 12, eZ aC 16 M.li), (b 13, eZ aC 16 M.hi)]) := by
  refine CT.of (cc := b_Mo_dualFault) (maxL := 3) (ret := (some .double)) (by decide +kernel) k_Mo_dualFault (Nat.le_of_ble_eq_true rfl) ?_
  intro p e s m below meth c Q S hr hlocks hQ hK hN hP hD hS ls hl
  obtain ⟨hx, hb, hml, hown, hts⟩ := id S
  have hl : lv_has ls 3 [(0, .ref (b 0)), (1, .int (iI i))] := hl
  have hrw := hM.rw
  have hcn := hM.cn
  refine lv_aload_n hx hb d_Mo_dualFault_0 rfl (lv_at hl 0 rfl) ?_
  refine lv_iload_n hx hb d_Mo_dualFault_1 rfl (lv_at hl 1 rfl) ?_
  refine x_callV0F S (c_Mo_reduced l D aC b M hM er p2 f f1 f2 f3 f4 f5 i (by omega)) t_Mo_187 (rm_ok (by decide) (by decide)) hK hN hP hD hS [0, 1, 2, 3, 4, 5, 6] [7, 8, 9, 10, 11, 12, 13] rfl (by decide +kernel) (fun w9 hw => by obtain ⟨s1, g1_1, g2_1, g3_1, g4_1, g5_1, p2_1, rfl, hs1⟩ := hw; exact ⟨rfl, Nat.le_of_ble_eq_true rfl⟩) 6 6 rfl rfl rfl hl.1 rfl (Nat.le_of_ble_eq_true rfl) d_Mo_dualFault_2 ⟨Nat.zero_le _, Nat.zero_le _⟩ (fun w1 ws1 H locs e9 hw hP hD hS => ?_)
  obtain ⟨s1, g1_1, g2_1, g3_1, g4_1, g5_1, p2_1, rfl, hs1⟩ := hw
  have e9 : ws1 = [(b 16, eI aC 440 s1), (b 18, eI aC 1200 g1_1), (b 19, eI aC 1200 g2_1), (b 20, eI aC 1200 g3_1), (b 21, eI aC 1200 g4_1), (b 22, eI aC 1200 g5_1), (b 0, .inr (6, [.int (iI er), .int (iI M.rw), .int (iI M.cn), .int (iI M.en), .int (iI M.pr), .double (dM M.ko (-3)), .ref (b 1), .ref (b 2), .ref (b 3), .ref (b 4), .ref (b 5), .ref (b 6), .ref (b 7), .ref (b 8), .ref (b 9), .ref (b 10), .ref (b 11), .ref (b 12), .ref (b 13), .ref (b 14), .ref (b 15), .int (iI p2_1), .ref (b 16), .ref (b 17), .ref (b 18), .ref (b 19), .ref (b 20), .ref (b 21), .ref (b 22)])), (b 1, eD aC 192 (dA M.ka c3)), (b 2, eD aC 16 (dA M.kc c3)), (b 3, eD aC 256 (dA M.kq c3)), (b 8, eD aC 16 (dA M.kx M.xb)), (b 9, eD aC 12 (dA M.ky M.yb)), (b 10, eZ aC 192 M.ai), (b 11, eZ aC 256 M.qi), (b 12, eZ aC 16 M.li), (b 13, eZ aC 16 M.hi)] := e9
  subst e9
  have hsg : (-1 ≤ sgI (0 + U3 0 (M.kc i) (-3) 1 0 1 0 0 + su (mQ M i) M.cn.toNat + su (mY M i) M.rw.toNat) ∧ sgI (0 + U3 0 (M.kc i) (-3) 1 0 1 0 0 + su (mQ M i) M.cn.toNat + su (mY M i) M.rw.toNat) ≤ 1) ∧ (sgI (0 + U3 0 (M.kc i) (-3) 1 0 1 0 0 + su (mQ M i) M.cn.toNat + su (mY M i) M.rw.toNat) < 0 ↔ mR M i < 0) ∧ (0 < sgI (0 + U3 0 (M.kc i) (-3) 1 0 1 0 0 + su (mQ M i) M.cn.toNat + su (mY M i) M.rw.toNat) ↔ 0 < mR M i) := sgI_q (mR M i)
  refine lv_aload_n hx hb d_Mo_dualFault_5 rfl (lv_at hl 0 rfl) ?_
  refine y_callV1 (V := .int (iI (sgI (0 + U3 0 (M.kc i) (-3) 1 0 1 0 0 + su (mQ M i) M.cn.toNat + su (mY M i) M.rw.toNat)))) S (c_Mo_signOfSum l D aC b M er p2_1 s1 (0 + U3 0 (M.kc i) (-3) 1 0 1 0 0 + su (mQ M i) M.cn.toNat + su (mY M i) M.rw.toNat) hs1 ((B_R hM (j := i) (by omega)).big (by decide))) t_Mo_152 (rm_ok (by decide) (by decide)) hK hN hP [0, 6] rfl 1 6 rfl rfl rfl hl.1 rfl (Nat.le_of_ble_eq_true rfl) d_Mo_dualFault_6 ⟨Nat.zero_le _, Nat.zero_le _⟩ ?_
  refine lv_istore_n (lv' := [(2, .int (iI (sgI (0 + U3 0 (M.kc i) (-3) 1 0 1 0 0 + su (mQ M i) M.cn.toNat + su (mY M i) M.rw.toNat)))), (0, .ref (b 0)), (1, .int (iI i))]) hx hb d_Mo_dualFault_9 rfl hl (by decide) rfl (fun ls hl => ?_)
  refine lv_iload_n hx hb d_Mo_dualFault_10 rfl (lv_at hl 0 rfl) ?_
  refine x_if_le (tgt := 29) hx hb d_Mo_dualFault_11 (by decide) (by omega) (fun c_11 => ?_) (fun c_11 => ?_)
  · refine lv_iload_n hx hb d_Mo_dualFault_29 rfl (lv_at hl 0 rfl) ?_
    refine x_if_ge (tgt := 50) hx hb d_Mo_dualFault_30 (by decide) (by omega) (fun c_30 => ?_) (fun c_30 => ?_)
    · refine x_dconst0 hx hb d_Mo_dualFault_50 ?_
      have hxd : xd M i = _ := (if_neg (fun z => by have := hsg.2.2.mpr z.1; omega)).trans (if_neg (fun z => by have := hsg.2.1.mpr z.1; omega))
      have hw9 : [(b 16, eI aC 440 s1), (b 18, eI aC 1200 g1_1), (b 19, eI aC 1200 g2_1), (b 20, eI aC 1200 g3_1), (b 21, eI aC 1200 g4_1), (b 22, eI aC 1200 g5_1), (b 0, .inr (6, [.int (iI er), .int (iI M.rw), .int (iI M.cn), .int (iI M.en), .int (iI M.pr), .double (dM M.ko (-3)), .ref (b 1), .ref (b 2), .ref (b 3), .ref (b 4), .ref (b 5), .ref (b 6), .ref (b 7), .ref (b 8), .ref (b 9), .ref (b 10), .ref (b 11), .ref (b 12), .ref (b 13), .ref (b 14), .ref (b 15), .int (iI p2_1), .ref (b 16), .ref (b 17), .ref (b 18), .ref (b 19), .ref (b 20), .ref (b 21), .ref (b 22)])), (b 1, eD aC 192 (dA M.ka c3)), (b 2, eD aC 16 (dA M.kc c3)), (b 3, eD aC 256 (dA M.kq c3)), (b 8, eD aC 16 (dA M.kx M.xb)), (b 9, eD aC 12 (dA M.ky M.yb)), (b 10, eZ aC 192 M.ai), (b 11, eZ aC 256 M.qi), (b 12, eZ aC 16 M.li), (b 13, eZ aC 16 M.hi)] = [(b 16, eI aC 440 s1), (b 18, eI aC 1200 g1_1), (b 19, eI aC 1200 g2_1), (b 20, eI aC 1200 g3_1), (b 21, eI aC 1200 g4_1), (b 22, eI aC 1200 g5_1), (b 0, .inr (6, [.int (iI (eU er (xd M i))), .int (iI M.rw), .int (iI M.cn), .int (iI M.en), .int (iI M.pr), .double (dM M.ko (-3)), .ref (b 1), .ref (b 2), .ref (b 3), .ref (b 4), .ref (b 5), .ref (b 6), .ref (b 7), .ref (b 8), .ref (b 9), .ref (b 10), .ref (b 11), .ref (b 12), .ref (b 13), .ref (b 14), .ref (b 15), .int (iI p2_1), .ref (b 16), .ref (b 17), .ref (b 18), .ref (b 19), .ref (b 20), .ref (b 21), .ref (b 22)])), (b 1, eD aC 192 (dA M.ka c3)), (b 2, eD aC 16 (dA M.kc c3)), (b 3, eD aC 256 (dA M.kq c3)), (b 8, eD aC 16 (dA M.kx M.xb)), (b 9, eD aC 12 (dA M.ky M.yb)), (b 10, eZ aC 192 M.ai), (b 11, eZ aC 256 M.qi), (b 12, eZ aC 16 M.li), (b 13, eZ aC 16 M.hi)] := by rw [hxd, eU_z (Int.le_refl 0)] <;> rfl
      exact x_dret hx hb hr hlocks hQ (⟨by rw [hxd, uM_0, uE_0], s1, g1_1, g2_1, g3_1, g4_1, g5_1, p2_1, hw9⟩) rfl hP hS d_Mo_dualFault_51
    · refine lv_aload_n hx hb d_Mo_dualFault_33 rfl (lv_at hl 1 rfl) ?_
      refine va_get (D := D) (ci := 6) (v := .ref (b 13)) (C := R_Mo) (T := F_Mo) (N := 29) hx hb hts i_Mo hown hK hP 6 rfl rfl 18 (by decide) (hts _ wf_Mo_47) (fun _ h9 => h9) rfl d_Mo_dualFault_34 ?_
      refine lv_iload_n hx hb d_Mo_dualFault_37 rfl (lv_at hl 2 rfl) ?_
      have hz2 := hM.hi i (by omega) (by omega)
      refine x_zald hx hb hK hP 15 rfl (by omega) (by decide) d_Mo_dualFault_38 ?_
      refine x_if_ne (tgt := 50) hx hb d_Mo_dualFault_39 (by decide) (by omega) (fun c_39 => ?_) (fun c_39 => ?_)
      · refine x_dconst0 hx hb d_Mo_dualFault_50 ?_
        have hxd : xd M i = _ := (if_neg (fun z => by have := hsg.2.2.mpr z.1; omega)).trans (if_neg (fun z => by have := hsg.2.1.mpr z.1; omega))
        have hw9 : [(b 16, eI aC 440 s1), (b 18, eI aC 1200 g1_1), (b 19, eI aC 1200 g2_1), (b 20, eI aC 1200 g3_1), (b 21, eI aC 1200 g4_1), (b 22, eI aC 1200 g5_1), (b 0, .inr (6, [.int (iI er), .int (iI M.rw), .int (iI M.cn), .int (iI M.en), .int (iI M.pr), .double (dM M.ko (-3)), .ref (b 1), .ref (b 2), .ref (b 3), .ref (b 4), .ref (b 5), .ref (b 6), .ref (b 7), .ref (b 8), .ref (b 9), .ref (b 10), .ref (b 11), .ref (b 12), .ref (b 13), .ref (b 14), .ref (b 15), .int (iI p2_1), .ref (b 16), .ref (b 17), .ref (b 18), .ref (b 19), .ref (b 20), .ref (b 21), .ref (b 22)])), (b 1, eD aC 192 (dA M.ka c3)), (b 2, eD aC 16 (dA M.kc c3)), (b 3, eD aC 256 (dA M.kq c3)), (b 8, eD aC 16 (dA M.kx M.xb)), (b 9, eD aC 12 (dA M.ky M.yb)), (b 10, eZ aC 192 M.ai), (b 11, eZ aC 256 M.qi), (b 12, eZ aC 16 M.li), (b 13, eZ aC 16 M.hi)] = [(b 16, eI aC 440 s1), (b 18, eI aC 1200 g1_1), (b 19, eI aC 1200 g2_1), (b 20, eI aC 1200 g3_1), (b 21, eI aC 1200 g4_1), (b 22, eI aC 1200 g5_1), (b 0, .inr (6, [.int (iI (eU er (xd M i))), .int (iI M.rw), .int (iI M.cn), .int (iI M.en), .int (iI M.pr), .double (dM M.ko (-3)), .ref (b 1), .ref (b 2), .ref (b 3), .ref (b 4), .ref (b 5), .ref (b 6), .ref (b 7), .ref (b 8), .ref (b 9), .ref (b 10), .ref (b 11), .ref (b 12), .ref (b 13), .ref (b 14), .ref (b 15), .int (iI p2_1), .ref (b 16), .ref (b 17), .ref (b 18), .ref (b 19), .ref (b 20), .ref (b 21), .ref (b 22)])), (b 1, eD aC 192 (dA M.ka c3)), (b 2, eD aC 16 (dA M.kc c3)), (b 3, eD aC 256 (dA M.kq c3)), (b 8, eD aC 16 (dA M.kx M.xb)), (b 9, eD aC 12 (dA M.ky M.yb)), (b 10, eZ aC 192 M.ai), (b 11, eZ aC 256 M.qi), (b 12, eZ aC 16 M.li), (b 13, eZ aC 16 M.hi)] := by rw [hxd, eU_z (Int.le_refl 0)] <;> rfl
        exact x_dret hx hb hr hlocks hQ (⟨by rw [hxd, uM_0, uE_0], s1, g1_1, g2_1, g3_1, g4_1, g5_1, p2_1, hw9⟩) rfl hP hS d_Mo_dualFault_51
      · refine lv_aload_n hx hb d_Mo_dualFault_42 rfl (lv_at hl 1 rfl) ?_
        refine lv_iconst (v := iI 1) hx hb d_Mo_dualFault_43 rfl ?_
        refine x_callV1F (V := .double (dM (uM (po (-(0 + U3 0 (M.kc i) (-3) 1 0 1 0 0 + su (mQ M i) M.cn.toNat + su (mY M i) M.rw.toNat)))) (uE (po (-(0 + U3 0 (M.kc i) (-3) 1 0 1 0 0 + su (mQ M i) M.cn.toNat + su (mY M i) M.rw.toNat)))))) S (c_Mo_excess_1 l D aC b M er p2_1 (by omega) s1 g1_1 (0 + U3 0 (M.kc i) (-3) 1 0 1 0 0 + su (mQ M i) M.cn.toNat + su (mY M i) M.rw.toNat) hs1 ((B_R hM (j := i) (by omega)).big (by decide))) t_Mo_183 (rm_ok (by decide) (by decide)) hK hN hP hD hS [0, 1, 6] [] rfl rfl (fun w9 hw => by obtain ⟨s2, g1_2, rfl⟩ := hw; exact ⟨rfl, Nat.le_of_ble_eq_true rfl⟩) 2 6 rfl rfl rfl hl.1 rfl (Nat.le_of_ble_eq_true rfl) d_Mo_dualFault_44 ⟨Nat.zero_le _, Nat.zero_le _⟩ (fun w1 ws1 H locs e9 hw hP hD hS => ?_)
        obtain ⟨s2, g1_2, rfl⟩ := hw
        have e9 : ws1 = [(b 16, eI aC 440 s2), (b 18, eI aC 1200 g1_2), (b 19, eI aC 1200 g2_1), (b 20, eI aC 1200 g3_1), (b 21, eI aC 1200 g4_1), (b 22, eI aC 1200 g5_1), (b 0, .inr (6, [.int (iI (eU er (po (-(0 + U3 0 (M.kc i) (-3) 1 0 1 0 0 + su (mQ M i) M.cn.toNat + su (mY M i) M.rw.toNat))))), .int (iI M.rw), .int (iI M.cn), .int (iI M.en), .int (iI M.pr), .double (dM M.ko (-3)), .ref (b 1), .ref (b 2), .ref (b 3), .ref (b 4), .ref (b 5), .ref (b 6), .ref (b 7), .ref (b 8), .ref (b 9), .ref (b 10), .ref (b 11), .ref (b 12), .ref (b 13), .ref (b 14), .ref (b 15), .int (iI p2_1), .ref (b 16), .ref (b 17), .ref (b 18), .ref (b 19), .ref (b 20), .ref (b 21), .ref (b 22)])), (b 1, eD aC 192 (dA M.ka c3)), (b 2, eD aC 16 (dA M.kc c3)), (b 3, eD aC 256 (dA M.kq c3)), (b 8, eD aC 16 (dA M.kx M.xb)), (b 9, eD aC 12 (dA M.ky M.yb)), (b 10, eZ aC 192 M.ai), (b 11, eZ aC 256 M.qi), (b 12, eZ aC 16 M.li), (b 13, eZ aC 16 M.hi)] := e9
        subst e9
        have hu2 := eU_r (er := er) (V := po (-(0 + U3 0 (M.kc i) (-3) 1 0 1 0 0 + su (mQ M i) M.cn.toNat + su (mY M i) M.rw.toNat))) (by omega)
        have hok2 := u_ok (V := po (-(0 + U3 0 (M.kc i) (-3) 1 0 1 0 0 + su (mQ M i) M.cn.toNat + su (mY M i) M.rw.toNat)))
        refine lv_goto (tgt := 51) hx hb d_Mo_dualFault_47 (by decide) ?_
        have hxd : xd M i = _ := (if_neg (fun z => by have := hsg.2.2.mpr z.1; omega)).trans (if_pos ⟨hsg.2.1.mp (by omega), by omega⟩)
        have hw9 : [(b 16, eI aC 440 s2), (b 18, eI aC 1200 g1_2), (b 19, eI aC 1200 g2_1), (b 20, eI aC 1200 g3_1), (b 21, eI aC 1200 g4_1), (b 22, eI aC 1200 g5_1), (b 0, .inr (6, [.int (iI (eU er (po (-(0 + U3 0 (M.kc i) (-3) 1 0 1 0 0 + su (mQ M i) M.cn.toNat + su (mY M i) M.rw.toNat))))), .int (iI M.rw), .int (iI M.cn), .int (iI M.en), .int (iI M.pr), .double (dM M.ko (-3)), .ref (b 1), .ref (b 2), .ref (b 3), .ref (b 4), .ref (b 5), .ref (b 6), .ref (b 7), .ref (b 8), .ref (b 9), .ref (b 10), .ref (b 11), .ref (b 12), .ref (b 13), .ref (b 14), .ref (b 15), .int (iI p2_1), .ref (b 16), .ref (b 17), .ref (b 18), .ref (b 19), .ref (b 20), .ref (b 21), .ref (b 22)])), (b 1, eD aC 192 (dA M.ka c3)), (b 2, eD aC 16 (dA M.kc c3)), (b 3, eD aC 256 (dA M.kq c3)), (b 8, eD aC 16 (dA M.kx M.xb)), (b 9, eD aC 12 (dA M.ky M.yb)), (b 10, eZ aC 192 M.ai), (b 11, eZ aC 256 M.qi), (b 12, eZ aC 16 M.li), (b 13, eZ aC 16 M.hi)] = [(b 16, eI aC 440 s2), (b 18, eI aC 1200 g1_2), (b 19, eI aC 1200 g2_1), (b 20, eI aC 1200 g3_1), (b 21, eI aC 1200 g4_1), (b 22, eI aC 1200 g5_1), (b 0, .inr (6, [.int (iI (eU er (xd M i))), .int (iI M.rw), .int (iI M.cn), .int (iI M.en), .int (iI M.pr), .double (dM M.ko (-3)), .ref (b 1), .ref (b 2), .ref (b 3), .ref (b 4), .ref (b 5), .ref (b 6), .ref (b 7), .ref (b 8), .ref (b 9), .ref (b 10), .ref (b 11), .ref (b 12), .ref (b 13), .ref (b 14), .ref (b 15), .int (iI p2_1), .ref (b 16), .ref (b 17), .ref (b 18), .ref (b 19), .ref (b 20), .ref (b 21), .ref (b 22)])), (b 1, eD aC 192 (dA M.ka c3)), (b 2, eD aC 16 (dA M.kc c3)), (b 3, eD aC 256 (dA M.kq c3)), (b 8, eD aC 16 (dA M.kx M.xb)), (b 9, eD aC 12 (dA M.ky M.yb)), (b 10, eZ aC 192 M.ai), (b 11, eZ aC 256 M.qi), (b 12, eZ aC 16 M.li), (b 13, eZ aC 16 M.hi)] := by rw [hxd] <;> rfl
        exact x_dret hx hb hr hlocks hQ (⟨by rw [hxd] <;> rfl, s2, g1_2, g2_1, g3_1, g4_1, g5_1, p2_1, hw9⟩) rfl hP hS d_Mo_dualFault_51
  · refine lv_aload_n hx hb d_Mo_dualFault_14 rfl (lv_at hl 1 rfl) ?_
    refine va_get (D := D) (ci := 6) (v := .ref (b 12)) (C := R_Mo) (T := F_Mo) (N := 29) hx hb hts i_Mo hown hK hP 6 rfl rfl 17 (by decide) (hts _ wf_Mo_44) (fun _ h9 => h9) rfl d_Mo_dualFault_15 ?_
    refine lv_iload_n hx hb d_Mo_dualFault_18 rfl (lv_at hl 2 rfl) ?_
    have hz1 := hM.li i (by omega) (by omega)
    refine x_zald hx hb hK hP 14 rfl (by omega) (by decide) d_Mo_dualFault_19 ?_
    refine x_if_ne (tgt := 29) hx hb d_Mo_dualFault_20 (by decide) (by omega) (fun c_20 => ?_) (fun c_20 => ?_)
    · refine lv_iload_n hx hb d_Mo_dualFault_29 rfl (lv_at hl 0 rfl) ?_
      refine x_if_ge (tgt := 50) hx hb d_Mo_dualFault_30 (by decide) (by omega) (fun c_30 => ?_) (fun c_30 => (by exfalso; omega))
      refine x_dconst0 hx hb d_Mo_dualFault_50 ?_
      have hxd : xd M i = _ := (if_neg (fun z => by have := hsg.2.2.mpr z.1; omega)).trans (if_neg (fun z => by have := hsg.2.1.mpr z.1; omega))
      have hw9 : [(b 16, eI aC 440 s1), (b 18, eI aC 1200 g1_1), (b 19, eI aC 1200 g2_1), (b 20, eI aC 1200 g3_1), (b 21, eI aC 1200 g4_1), (b 22, eI aC 1200 g5_1), (b 0, .inr (6, [.int (iI er), .int (iI M.rw), .int (iI M.cn), .int (iI M.en), .int (iI M.pr), .double (dM M.ko (-3)), .ref (b 1), .ref (b 2), .ref (b 3), .ref (b 4), .ref (b 5), .ref (b 6), .ref (b 7), .ref (b 8), .ref (b 9), .ref (b 10), .ref (b 11), .ref (b 12), .ref (b 13), .ref (b 14), .ref (b 15), .int (iI p2_1), .ref (b 16), .ref (b 17), .ref (b 18), .ref (b 19), .ref (b 20), .ref (b 21), .ref (b 22)])), (b 1, eD aC 192 (dA M.ka c3)), (b 2, eD aC 16 (dA M.kc c3)), (b 3, eD aC 256 (dA M.kq c3)), (b 8, eD aC 16 (dA M.kx M.xb)), (b 9, eD aC 12 (dA M.ky M.yb)), (b 10, eZ aC 192 M.ai), (b 11, eZ aC 256 M.qi), (b 12, eZ aC 16 M.li), (b 13, eZ aC 16 M.hi)] = [(b 16, eI aC 440 s1), (b 18, eI aC 1200 g1_1), (b 19, eI aC 1200 g2_1), (b 20, eI aC 1200 g3_1), (b 21, eI aC 1200 g4_1), (b 22, eI aC 1200 g5_1), (b 0, .inr (6, [.int (iI (eU er (xd M i))), .int (iI M.rw), .int (iI M.cn), .int (iI M.en), .int (iI M.pr), .double (dM M.ko (-3)), .ref (b 1), .ref (b 2), .ref (b 3), .ref (b 4), .ref (b 5), .ref (b 6), .ref (b 7), .ref (b 8), .ref (b 9), .ref (b 10), .ref (b 11), .ref (b 12), .ref (b 13), .ref (b 14), .ref (b 15), .int (iI p2_1), .ref (b 16), .ref (b 17), .ref (b 18), .ref (b 19), .ref (b 20), .ref (b 21), .ref (b 22)])), (b 1, eD aC 192 (dA M.ka c3)), (b 2, eD aC 16 (dA M.kc c3)), (b 3, eD aC 256 (dA M.kq c3)), (b 8, eD aC 16 (dA M.kx M.xb)), (b 9, eD aC 12 (dA M.ky M.yb)), (b 10, eZ aC 192 M.ai), (b 11, eZ aC 256 M.qi), (b 12, eZ aC 16 M.li), (b 13, eZ aC 16 M.hi)] := by rw [hxd, eU_z (Int.le_refl 0)] <;> rfl
      exact x_dret hx hb hr hlocks hQ (⟨by rw [hxd, uM_0, uE_0], s1, g1_1, g2_1, g3_1, g4_1, g5_1, p2_1, hw9⟩) rfl hP hS d_Mo_dualFault_51
    · refine lv_aload_n hx hb d_Mo_dualFault_23 rfl (lv_at hl 1 rfl) ?_
      refine lv_iconst (v := iI 0) hx hb d_Mo_dualFault_24 rfl ?_
      refine x_callV1F (V := .double (dM (uM (po (0 + U3 0 (M.kc i) (-3) 1 0 1 0 0 + su (mQ M i) M.cn.toNat + su (mY M i) M.rw.toNat))) (uE (po (0 + U3 0 (M.kc i) (-3) 1 0 1 0 0 + su (mQ M i) M.cn.toNat + su (mY M i) M.rw.toNat))))) S (c_Mo_excess_0 l D aC b M er p2_1 (by omega) s1 g1_1 (0 + U3 0 (M.kc i) (-3) 1 0 1 0 0 + su (mQ M i) M.cn.toNat + su (mY M i) M.rw.toNat) hs1 ((B_R hM (j := i) (by omega)).big (by decide))) t_Mo_183 (rm_ok (by decide) (by decide)) hK hN hP hD hS [0, 1, 6] [] rfl rfl (fun w9 hw => by obtain ⟨s3, g1_3, rfl⟩ := hw; exact ⟨rfl, Nat.le_of_ble_eq_true rfl⟩) 2 6 rfl rfl rfl hl.1 rfl (Nat.le_of_ble_eq_true rfl) d_Mo_dualFault_25 ⟨Nat.zero_le _, Nat.zero_le _⟩ (fun w1 ws1 H locs e9 hw hP hD hS => ?_)
      obtain ⟨s3, g1_3, rfl⟩ := hw
      have e9 : ws1 = [(b 16, eI aC 440 s3), (b 18, eI aC 1200 g1_3), (b 19, eI aC 1200 g2_1), (b 20, eI aC 1200 g3_1), (b 21, eI aC 1200 g4_1), (b 22, eI aC 1200 g5_1), (b 0, .inr (6, [.int (iI (eU er (po (0 + U3 0 (M.kc i) (-3) 1 0 1 0 0 + su (mQ M i) M.cn.toNat + su (mY M i) M.rw.toNat)))), .int (iI M.rw), .int (iI M.cn), .int (iI M.en), .int (iI M.pr), .double (dM M.ko (-3)), .ref (b 1), .ref (b 2), .ref (b 3), .ref (b 4), .ref (b 5), .ref (b 6), .ref (b 7), .ref (b 8), .ref (b 9), .ref (b 10), .ref (b 11), .ref (b 12), .ref (b 13), .ref (b 14), .ref (b 15), .int (iI p2_1), .ref (b 16), .ref (b 17), .ref (b 18), .ref (b 19), .ref (b 20), .ref (b 21), .ref (b 22)])), (b 1, eD aC 192 (dA M.ka c3)), (b 2, eD aC 16 (dA M.kc c3)), (b 3, eD aC 256 (dA M.kq c3)), (b 8, eD aC 16 (dA M.kx M.xb)), (b 9, eD aC 12 (dA M.ky M.yb)), (b 10, eZ aC 192 M.ai), (b 11, eZ aC 256 M.qi), (b 12, eZ aC 16 M.li), (b 13, eZ aC 16 M.hi)] := e9
      subst e9
      have hu3 := eU_r (er := er) (V := po (0 + U3 0 (M.kc i) (-3) 1 0 1 0 0 + su (mQ M i) M.cn.toNat + su (mY M i) M.rw.toNat)) (by omega)
      have hok3 := u_ok (V := po (0 + U3 0 (M.kc i) (-3) 1 0 1 0 0 + su (mQ M i) M.cn.toNat + su (mY M i) M.rw.toNat))
      have hxd : xd M i = _ := if_pos ⟨hsg.2.2.mp (by omega), by omega⟩
      have hw9 : [(b 16, eI aC 440 s3), (b 18, eI aC 1200 g1_3), (b 19, eI aC 1200 g2_1), (b 20, eI aC 1200 g3_1), (b 21, eI aC 1200 g4_1), (b 22, eI aC 1200 g5_1), (b 0, .inr (6, [.int (iI (eU er (po (0 + U3 0 (M.kc i) (-3) 1 0 1 0 0 + su (mQ M i) M.cn.toNat + su (mY M i) M.rw.toNat)))), .int (iI M.rw), .int (iI M.cn), .int (iI M.en), .int (iI M.pr), .double (dM M.ko (-3)), .ref (b 1), .ref (b 2), .ref (b 3), .ref (b 4), .ref (b 5), .ref (b 6), .ref (b 7), .ref (b 8), .ref (b 9), .ref (b 10), .ref (b 11), .ref (b 12), .ref (b 13), .ref (b 14), .ref (b 15), .int (iI p2_1), .ref (b 16), .ref (b 17), .ref (b 18), .ref (b 19), .ref (b 20), .ref (b 21), .ref (b 22)])), (b 1, eD aC 192 (dA M.ka c3)), (b 2, eD aC 16 (dA M.kc c3)), (b 3, eD aC 256 (dA M.kq c3)), (b 8, eD aC 16 (dA M.kx M.xb)), (b 9, eD aC 12 (dA M.ky M.yb)), (b 10, eZ aC 192 M.ai), (b 11, eZ aC 256 M.qi), (b 12, eZ aC 16 M.li), (b 13, eZ aC 16 M.hi)] = [(b 16, eI aC 440 s3), (b 18, eI aC 1200 g1_3), (b 19, eI aC 1200 g2_1), (b 20, eI aC 1200 g3_1), (b 21, eI aC 1200 g4_1), (b 22, eI aC 1200 g5_1), (b 0, .inr (6, [.int (iI (eU er (xd M i))), .int (iI M.rw), .int (iI M.cn), .int (iI M.en), .int (iI M.pr), .double (dM M.ko (-3)), .ref (b 1), .ref (b 2), .ref (b 3), .ref (b 4), .ref (b 5), .ref (b 6), .ref (b 7), .ref (b 8), .ref (b 9), .ref (b 10), .ref (b 11), .ref (b 12), .ref (b 13), .ref (b 14), .ref (b 15), .int (iI p2_1), .ref (b 16), .ref (b 17), .ref (b 18), .ref (b 19), .ref (b 20), .ref (b 21), .ref (b 22)])), (b 1, eD aC 192 (dA M.ka c3)), (b 2, eD aC 16 (dA M.kc c3)), (b 3, eD aC 256 (dA M.kq c3)), (b 8, eD aC 16 (dA M.kx M.xb)), (b 9, eD aC 12 (dA M.ky M.yb)), (b 10, eZ aC 192 M.ai), (b 11, eZ aC 256 M.qi), (b 12, eZ aC 16 M.li), (b 13, eZ aC 16 M.hi)] := by rw [hxd] <;> rfl
      exact x_dret hx hb hr hlocks hQ (⟨by rw [hxd] <;> rfl, s3, g1_3, g2_1, g3_1, g4_1, g5_1, p2_1, hw9⟩) rfl hP hS d_Mo_dualFault_28
set_option maxHeartbeats 4000000 in
set_option maxRecDepth 100000 in
theorem c_Mo_priceFault (l : Launch) (D : va_G) (aC : Nat → ClassId) (b : Nat → Nat) (M : MS) (hM : MI M) (er p2 : Int) (i : Int) (hi : 0 ≤ i ∧ i < 12) : CR l D aC y_Mo_priceFault (rd 0 0) [.ref (b 0), .int (iI i)] [(b 0, .inr (6, [.int (iI er), .int (iI M.rw), .int (iI M.cn), .int (iI M.en), .int (iI M.pr), .double (dM M.ko (-3)), .ref (b 1), .ref (b 2), .ref (b 3), .ref (b 4), .ref (b 5), .ref (b 6), .ref (b 7), .ref (b 8), .ref (b 9), .ref (b 10), .ref (b 11), .ref (b 12), .ref (b 13), .ref (b 14), .ref (b 15), .int (iI p2), .ref (b 16), .ref (b 17), .ref (b 18), .ref (b 19), .ref (b 20), .ref (b 21), .ref (b 22)])), (b 9, eD aC 12 (dA M.ky M.yb)), (b 14, eZ aC 12 M.rli), (b 15, eZ aC 12 M.rhi)] (fun v => v = some (.double (dM (pvM M i) (pvE M i)))) := by
  refine CR.of (cc := b_Mo_priceFault) (maxL := 2) (ret := (some .double)) (by decide +kernel) k_Mo_priceFault (Nat.le_of_ble_eq_true rfl) ?_
  intro p e s m below meth c Q S hr hlocks hQ hK hN hP ls hl
  obtain ⟨hx, hb, hml, hown, hts⟩ := id S
  have hl : lv_has ls 2 [(0, .ref (b 0)), (1, .int (iI i))] := hl
  have hky := hM.ky i (by omega) (by omega)
  have hyb := hM.yb i (by omega) (by omega)
  have hz1 := hM.rli i (by omega) (by omega)
  have hz2 := hM.rhi i (by omega) (by omega)
  refine lv_aload_n hx hb d_Mo_priceFault_0 rfl (lv_at hl 0 rfl) ?_
  refine va_get (D := D) (ci := 6) (v := .ref (b 9)) (C := R_Mo) (T := F_Mo) (N := 29) hx hb hts i_Mo hown hK hP 0 rfl rfl 14 (by decide) (hts _ wf_Mo_34) (fun _ h9 => h9) rfl d_Mo_priceFault_1 ?_
  refine lv_iload_n hx hb d_Mo_priceFault_4 rfl (lv_at hl 1 rfl) ?_
  refine x_dald hx hb hK hP 1 rfl (by omega) (by decide) d_Mo_priceFault_5 ?_
  refine x_dconst0 hx hb d_Mo_priceFault_6 ?_
  refine x_dcmp_le (tgt := 29) hx hb d_Mo_priceFault_7 d_Mo_priceFault_8 (by decide) (by unfold dOk; omega) (by unfold dOk; omega) (fun c_7 => ?_) (fun c_7 => ?_)
  · have d_7 := zs_le.mp c_7
    refine lv_aload_n hx hb d_Mo_priceFault_29 rfl (lv_at hl 0 rfl) ?_
    refine va_get (D := D) (ci := 6) (v := .ref (b 9)) (C := R_Mo) (T := F_Mo) (N := 29) hx hb hts i_Mo hown hK hP 0 rfl rfl 14 (by decide) (hts _ wf_Mo_34) (fun _ h9 => h9) rfl d_Mo_priceFault_30 ?_
    refine lv_iload_n hx hb d_Mo_priceFault_33 rfl (lv_at hl 1 rfl) ?_
    refine x_dald hx hb hK hP 1 rfl (by omega) (by decide) d_Mo_priceFault_34 ?_
    refine x_dconst0 hx hb d_Mo_priceFault_35 ?_
    refine x_dcmp_ge (tgt := 60) hx hb d_Mo_priceFault_36 d_Mo_priceFault_37 (by decide) (by unfold dOk; omega) (by unfold dOk; omega) (fun c_36 => ?_) (fun c_36 => ?_)
    · have d_36 := zs_ge.mp c_36
      refine x_dconst0 hx hb d_Mo_priceFault_60 ?_
      exact y_dret hx hb hr hlocks hQ (by rw [show pvM M i = _ from (if_neg (by omega)).trans (if_neg (by omega)), show pvE M i = _ from (if_neg (by omega)).trans (if_neg (by omega))] <;> rfl) d_Mo_priceFault_61
    · have d_36 : ¬ 0 ≤ M.ky i := fun z => c_36 (zs_ge.mpr z)
      refine lv_aload_n hx hb d_Mo_priceFault_40 rfl (lv_at hl 0 rfl) ?_
      refine va_get (D := D) (ci := 6) (v := .ref (b 15)) (C := R_Mo) (T := F_Mo) (N := 29) hx hb hts i_Mo hown hK hP 0 rfl rfl 20 (by decide) (hts _ wf_Mo_53) (fun _ h9 => h9) rfl d_Mo_priceFault_41 ?_
      refine lv_iload_n hx hb d_Mo_priceFault_44 rfl (lv_at hl 1 rfl) ?_
      refine x_zald hx hb hK hP 3 rfl (by omega) (by decide) d_Mo_priceFault_45 ?_
      refine x_if_ne (tgt := 60) hx hb d_Mo_priceFault_46 (by decide) (by omega) (fun c_46 => ?_) (fun c_46 => ?_)
      · refine x_dconst0 hx hb d_Mo_priceFault_60 ?_
        exact y_dret hx hb hr hlocks hQ (by rw [show pvM M i = _ from (if_neg (by omega)).trans (if_neg (by omega)), show pvE M i = _ from (if_neg (by omega)).trans (if_neg (by omega))] <;> rfl) d_Mo_priceFault_61
      · refine x_dconst0 hx hb d_Mo_priceFault_49 ?_
        refine lv_aload_n hx hb d_Mo_priceFault_50 rfl (lv_at hl 0 rfl) ?_
        refine va_get (D := D) (ci := 6) (v := .ref (b 9)) (C := R_Mo) (T := F_Mo) (N := 29) hx hb hts i_Mo hown hK hP 0 rfl rfl 14 (by decide) (hts _ wf_Mo_34) (fun _ h9 => h9) rfl d_Mo_priceFault_51 ?_
        refine lv_iload_n hx hb d_Mo_priceFault_54 rfl (lv_at hl 1 rfl) ?_
        refine x_dald hx hb hK hP 1 rfl (by omega) (by decide) d_Mo_priceFault_55 ?_
        refine x_dsub0 hx hb d_Mo_priceFault_56 (by unfold dOk; omega) ?_
        refine lv_goto (tgt := 61) hx hb d_Mo_priceFault_57 (by decide) ?_
        exact y_dret hx hb hr hlocks hQ (by rw [show pvM M i = _ from (if_neg (by omega)).trans (if_pos ⟨by omega, by omega⟩), show pvE M i = _ from (if_neg (by omega)).trans (if_pos ⟨by omega, by omega⟩)] <;> rfl) d_Mo_priceFault_61
  · have d_7 : ¬ M.ky i ≤ 0 := fun z => c_7 (zs_le.mpr z)
    refine lv_aload_n hx hb d_Mo_priceFault_11 rfl (lv_at hl 0 rfl) ?_
    refine va_get (D := D) (ci := 6) (v := .ref (b 14)) (C := R_Mo) (T := F_Mo) (N := 29) hx hb hts i_Mo hown hK hP 0 rfl rfl 19 (by decide) (hts _ wf_Mo_50) (fun _ h9 => h9) rfl d_Mo_priceFault_12 ?_
    refine lv_iload_n hx hb d_Mo_priceFault_15 rfl (lv_at hl 1 rfl) ?_
    refine x_zald hx hb hK hP 2 rfl (by omega) (by decide) d_Mo_priceFault_16 ?_
    refine x_if_ne (tgt := 29) hx hb d_Mo_priceFault_17 (by decide) (by omega) (fun c_17 => ?_) (fun c_17 => ?_)
    · refine lv_aload_n hx hb d_Mo_priceFault_29 rfl (lv_at hl 0 rfl) ?_
      refine va_get (D := D) (ci := 6) (v := .ref (b 9)) (C := R_Mo) (T := F_Mo) (N := 29) hx hb hts i_Mo hown hK hP 0 rfl rfl 14 (by decide) (hts _ wf_Mo_34) (fun _ h9 => h9) rfl d_Mo_priceFault_30 ?_
      refine lv_iload_n hx hb d_Mo_priceFault_33 rfl (lv_at hl 1 rfl) ?_
      refine x_dald hx hb hK hP 1 rfl (by omega) (by decide) d_Mo_priceFault_34 ?_
      refine x_dconst0 hx hb d_Mo_priceFault_35 ?_
      refine x_dcmp_ge (tgt := 60) hx hb d_Mo_priceFault_36 d_Mo_priceFault_37 (by decide) (by unfold dOk; omega) (by unfold dOk; omega) (fun c_36 => ?_) (fun c_36 => (absurd (zs_ge.mpr (by omega)) c_36))
      refine x_dconst0 hx hb d_Mo_priceFault_60 ?_
      exact y_dret hx hb hr hlocks hQ (by rw [show pvM M i = _ from (if_neg (by omega)).trans (if_neg (by omega)), show pvE M i = _ from (if_neg (by omega)).trans (if_neg (by omega))] <;> rfl) d_Mo_priceFault_61
    · refine lv_aload_n hx hb d_Mo_priceFault_20 rfl (lv_at hl 0 rfl) ?_
      refine va_get (D := D) (ci := 6) (v := .ref (b 9)) (C := R_Mo) (T := F_Mo) (N := 29) hx hb hts i_Mo hown hK hP 0 rfl rfl 14 (by decide) (hts _ wf_Mo_34) (fun _ h9 => h9) rfl d_Mo_priceFault_21 ?_
      refine lv_iload_n hx hb d_Mo_priceFault_24 rfl (lv_at hl 1 rfl) ?_
      refine x_dald hx hb hK hP 1 rfl (by omega) (by decide) d_Mo_priceFault_25 ?_
      refine lv_goto (tgt := 61) hx hb d_Mo_priceFault_26 (by decide) ?_
      exact y_dret hx hb hr hlocks hQ (by rw [show pvM M i = _ from if_pos ⟨by omega, by omega⟩, show pvE M i = _ from if_pos ⟨by omega, by omega⟩] <;> rfl) d_Mo_priceFault_61
set_option maxHeartbeats 4000000 in
set_option maxRecDepth 100000 in
theorem c_Mo_most (l : Launch) (D : va_G) (aC : Nat → ClassId) (k q k' q' : Int) (h : dOk k q) (h' : dOk k' q') : CR l D aC y_Mo_most (rd 0 0) [.double (dM k q), .double (dM k' q')] [] (fun v => v = some (.double (dM (msM k q k' q') (msE k q k' q')))) := by
  refine CR.of (cc := b_Mo_most) (maxL := 4) (ret := (some .double)) (by decide +kernel) k_Mo_most (Nat.le_of_ble_eq_true rfl) ?_
  intro p e s m below meth c Q S hr hlocks hQ hK hN hP ls hl
  obtain ⟨hx, hb, hml, hown, hts⟩ := id S
  have hl : lv_has ls 4 [(0, .double (dM k q)), (2, .double (dM k' q'))] := hl
  refine lv_dload_n hx hb d_Mo_most_0 rfl (lv_at hl 1 rfl) ?_
  refine lv_dload_n hx hb d_Mo_most_1 rfl (lv_at hl 0 rfl) ?_
  refine x_dcmp_le (tgt := 10) hx hb d_Mo_most_2 d_Mo_most_3 (by decide) (by assumption) (by assumption) (fun c_2 => ?_) (fun c_2 => ?_)
  · refine lv_dload_n hx hb d_Mo_most_10 rfl (lv_at hl 0 rfl) ?_
    exact y_dret hx hb hr hlocks hQ (by rw [(ms_f (Int.not_lt.mpr c_2)).1, (ms_f (Int.not_lt.mpr c_2)).2]) d_Mo_most_11
  · refine lv_dload_n hx hb d_Mo_most_6 rfl (lv_at hl 1 rfl) ?_
    refine lv_goto (tgt := 11) hx hb d_Mo_most_7 (by decide) ?_
    exact y_dret hx hb hr hlocks hQ (by rw [(ms_t (Int.lt_of_not_ge c_2)).1, (ms_t (Int.lt_of_not_ge c_2)).2]) d_Mo_most_11
