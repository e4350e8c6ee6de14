/-! rounding up is monotone -/
def cl (X : Int) (c : Nat) : Int := X / 2 ^ c + zP (X % 2 ^ c ≠ 0)
theorem cl_ge (X : Int) (c : Nat) : X ≤ cl X c * 2 ^ c := by
  have hp := p2_pos c
  have d := emod_add_div X (2 ^ c)
  have h1 := Int.emod_lt_of_pos X hp
  unfold cl
  by_cases h : X % 2 ^ c ≠ 0
  · rw [zP_t h, Int.add_mul, Int.one_mul, Int.mul_comm (X / 2 ^ c)]; omega
  · rw [zP_f h, Int.add_zero, Int.mul_comm (X / 2 ^ c)]; omega
theorem cl_le {X m : Int} {c : Nat} (h : X ≤ m * 2 ^ c) : cl X c ≤ m := by
  have hp := p2_pos c
  have d := emod_add_div X (2 ^ c)
  have h0 := Int.emod_nonneg X (Int.ne_of_gt hp)
  rcases (show cl X c ≤ m ∨ m + 1 ≤ cl X c by omega) with q | q
  · exact q
  · exfalso
    unfold cl at q
    by_cases r : X % 2 ^ c ≠ 0
    · rw [zP_t r] at q
      have a := Int.mul_le_mul_of_nonneg_right (show m ≤ X / 2 ^ c by omega) (Int.le_of_lt hp)
      rw [Int.mul_comm (X / 2 ^ c)] at a
      omega
    · rw [zP_f r] at q
      have a := Int.mul_le_mul_of_nonneg_right (show m + 1 ≤ X / 2 ^ c by omega) (Int.le_of_lt hp)
      rw [Int.mul_comm (X / 2 ^ c), Int.add_mul, Int.one_mul] at a
      omega
theorem tp_ge (X : Int) : -1 ≤ tp X := by unfold tp; split <;> omega
theorem tp_mono {X Y : Int} (h0 : 0 ≤ X) (h : X ≤ Y) : tp X ≤ tp Y := by
  rcases (show X = 0 ∨ 0 < X by omega) with q | q
  · have e : tp X = -1 := if_pos q
    have := tp_ge Y
    omega
  · obtain ⟨k, hk, a1, a2⟩ := tp_spec q
    obtain ⟨k', hk', b1, b2⟩ := tp_spec (show 0 < Y by omega)
    rcases (show k ≤ k' ∨ k' + 1 ≤ k by omega) with r | r
    · omega
    · have := p2_le r
      omega
def sx (X : Int) : Nat := (upL X + 3400).toNat
def Ru (X : Int) : Int := cl X (sx X) * 2 ^ sx X
theorem Ru_ge (X : Int) : X ≤ Ru X := cl_ge X (sx X)
theorem sx_mono {X Y : Int} (h0 : 0 ≤ X) (h : X ≤ Y) : sx X ≤ sx Y := by
  have := tp_mono h0 h
  unfold sx upL; omega
theorem Ru_mono {X Y : Int} (h0 : 0 ≤ X) (h : X ≤ Y) : Ru X ≤ Ru Y := by
  have hs := sx_mono h0 h
  have hy := cl_ge Y (sx Y)
  have e : (2 : Int) ^ sx Y = 2 ^ (sx Y - sx X) * 2 ^ sx X := by rw [← p2_add]; congr 1; omega
  have h1 : X ≤ cl Y (sx Y) * 2 ^ (sx Y - sx X) * 2 ^ sx X := by rw [Int.mul_assoc, ← e]; omega
  have h2 := Int.mul_le_mul_of_nonneg_right (cl_le h1) (Int.le_of_lt (p2_pos (sx X)))
  unfold Ru
  rw [e, ← Int.mul_assoc]; exact h2
theorem Ru_0 : Ru 0 = 0 := by
  unfold Ru cl
  rw [Int.zero_ediv, Int.zero_emod, zP_f (fun h => h rfl), Int.add_zero, Int.zero_mul]
def bT : Int := 2 ^ 4424
theorem bT_e : bT = 9007199254740992 * 2 ^ 4371 := by
  have e : (9007199254740992 : Int) = 2 ^ 53 := rfl
  unfold bT; rw [e, ← p2_add]
theorem bT_pos : 0 < bT := p2_pos 4424
theorem upM_cl {X : Int} (h : 0 < X) : upM X = cl X (sx X) := by unfold upM cl sx; rw [if_neg (by omega)]
theorem cl_53 {X : Int} (h : 0 < X) : cl X (sx X) ≤ 9007199254740992 := by
  have h1 := up_lt h
  have h3 := zP_01 (X % 2 ^ (upL X + 3400).toNat ≠ 0)
  unfold cl sx; omega
theorem tZ_R {X : Int} (h0 : 0 ≤ X) : tZ X = 1 ↔ bT ≤ Ru X := by
  rcases (show X = 0 ∨ 0 < X by omega) with q | h
  · rw [q, Ru_0, tZ_le (Int.le_refl 0)]
    have := bT_pos
    omega
  · have hL := upL_ge X
    have hc := cl_53 h
    have hR := Ru_ge X
    constructor
    · intro z
      rcases (tZ_1 z).2 with q | ⟨q1, q2⟩
      · obtain ⟨k, hk, a1, a2⟩ := tp_spec h
        have eL : upL X = max (tp X - 3452) (-1074) := rfl
        have a3 : bT ≤ 2 ^ k := p2_le (show 4424 ≤ k by omega)
        exact Int.le_trans a3 (Int.le_trans a1 hR)
      · have e1 : sx X = 4371 := by unfold sx; omega
        have e2 : Ru X = bT := by unfold Ru; rw [← upM_cl h, q2, e1, bT_e]
        rw [e2]; exact Int.le_refl _
    · intro hb
      rcases tZ_01 X with z | z
      · exfalso
        have nt9 := tZ_0 z
        have hn : ¬ (971 < upL X ∨ upL X = 971 ∧ upM X = 9007199254740992) := fun w => nt9 ⟨h, w⟩
        rw [bT_e] at hb
        unfold Ru at hb hR
        rcases (show upL X ≤ 970 ∨ upL X = 971 by omega) with r | r
        · have a := Int.mul_le_mul_of_nonneg_right hc (Int.le_of_lt (p2_pos (sx X)))
          have b := p2_le (show sx X + 1 ≤ 4371 by unfold sx; omega)
          rw [p2_add, show (2 : Int) ^ 1 = 2 from rfl] at b
          have c := p2_pos (sx X)
          generalize (2 : Int) ^ 4371 = w at *
          generalize (2 : Int) ^ sx X = v at *
          omega
        · have e1 : sx X = 4371 := by unfold sx; omega
          have e2 := upM_cl h
          rw [e1] at hb e2 hc
          have c := p2_pos 4371
          have a := Int.mul_le_mul_of_nonneg_right (show cl X 4371 ≤ 9007199254740991 by omega) (Int.le_of_lt c)
          generalize (2 : Int) ^ 4371 = w at *
          omega
      · exact z
def w26 : Int := 2 ^ 2326
theorem w26_pos : 0 < w26 := p2_pos 2326
theorem zQ_R {q : Int} (h : -1074 ≤ q) : zQ q * w26 = 2 ^ (q + 3400).toNat := by
  unfold zQ w26; rw [← p2_add]; congr 1; omega
/-- a double that is a figure rounded up, where there is one -/
def VOk (X m q : Int) : Prop := dOk m q ∧ 0 ≤ m ∧ (tZ X = 0 → m * zQ q * w26 = Ru X)
theorem u_V {X : Int} (h : 0 ≤ X) : VOk X (uM X) (uE X) := by
  refine ⟨u_ok, u_nn h, fun z => ?_⟩
  rcases (show X = 0 ∨ 0 < X by omega) with q | hs
  · rw [q, uM_0, Int.zero_mul, Int.zero_mul, Ru_0]
  · rw [(u_p z hs).1, (u_p z hs).2, Int.mul_assoc, zQ_R (upL_ge X), upM_cl hs]; rfl
theorem tZ_mono {X Y : Int} (h0 : 0 ≤ X) (h : X ≤ Y) (z : tZ Y = 0) : tZ X = 0 := by
  rcases tZ_01 X with a | a
  · exact a
  · have b := (tZ_R h0).mp a
    have c := (tZ_R (show 0 ≤ Y by omega)).mpr (Int.le_trans b (Ru_mono h0 h))
    omega
theorem VOk.most {X Y m q m' q' : Int} (hX : 0 ≤ X) (hY : 0 ≤ Y) (h : VOk X m q) (h' : VOk Y m' q') : VOk (max X Y) (msM m q m' q') (msE m q m' q') := by
  refine ⟨ms_ok h.1 h'.1, ?_, fun z => ?_⟩
  · by_cases c : m * zQ q < m' * zQ q'
    · rw [(ms_t c).1]; exact h'.2.1
    · rw [(ms_f c).1]; exact h.2.1
  · have e1 := h.2.2 (tZ_mono hX (show X ≤ max X Y by omega) z)
    have e2 := h'.2.2 (tZ_mono hY (show Y ≤ max X Y by omega) z)
    by_cases c : m * zQ q < m' * zQ q'
    · rw [(ms_t c).1, (ms_t c).2, e2]
      have l : Ru X < Ru Y := by rw [← e1, ← e2]; exact Int.mul_lt_mul_of_pos_right c w26_pos
      have r : X ≤ Y := by
        rcases (show X ≤ Y ∨ Y ≤ X by omega) with r | r
        · exact r
        · have := Ru_mono hY r; omega
      rw [show max X Y = Y by omega]
    · rw [(ms_f c).1, (ms_f c).2, e1]
      have l : Ru Y ≤ Ru X := by rw [← e1, ← e2]; exact Int.mul_le_mul_of_nonneg_right (Int.not_lt.mp c) (Int.le_of_lt w26_pos)
      rcases (show X ≤ Y ∨ Y ≤ X by omega) with r | r
      · have := Ru_mono hX r
        rw [show max X Y = Y by omega]; omega
      · rw [show max X Y = X by omega]
theorem eU_00 (V : Int) : eU 0 V = 3 * tZ V := by
  unfold eU fE
  rcases tZ_01 V with z | z
  · rw [z, if_neg (fun q => q.1 rfl)]; rfl
  · rw [z, if_pos ⟨by decide, rfl⟩]; rfl
theorem eU_max {X Y : Int} (hX : 0 ≤ X) (hY : 0 ≤ Y) : eU (3 * tZ X) Y = 3 * tZ (max X Y) := by
  rcases tZ_01 (max X Y) with z | z
  · rw [z, tZ_mono hX (show X ≤ max X Y by omega) z]
    unfold eU; rw [tZ_mono hY (show Y ≤ max X Y by omega) z]; rfl
  · rw [z]
    rcases tZ_01 X with a | a
    · rcases (show max X Y = X ∨ max X Y = Y by omega) with r | r
      · rw [r] at z; omega
      · rw [r] at z; unfold eU; rw [a, z]; rfl
    · rw [a]; unfold eU fE; rw [if_neg (by omega)]
theorem VOk.fin {X m q : Int} (hX : 0 ≤ X) (h : VOk X m q) (z : tZ X = 0) : m * zQ q = uM X * zQ (uE X) := by
  have e1 := h.2.2 z
  have e2 := (u_V hX).2.2 z
  exact Int.eq_of_mul_eq_mul_right (Int.ne_of_gt w26_pos) (e1.trans e2.symm)
theorem VOk.t {X m q m' q' : Int} (h : VOk X m q) (z : tZ X = 1) (h' : dOk m' q') (h0 : 0 ≤ m') : VOk X m' q' := ⟨h', h0, fun w => by omega⟩
/-- what is 0 after rounding is 0 before it -/
theorem VOk.pos {X m q : Int} (hX : 0 ≤ X) (h : VOk X m q) (z : tZ X = 0) : 0 < m ↔ 0 < X := by
  have e1 := h.2.2 z
  have h2 := Ru_ge X
  have h3 := h.2.1
  have h4 := Int.mul_pos (zQ_pos q) w26_pos
  rw [Int.mul_assoc] at e1
  constructor
  · intro p
    have := Int.mul_pos p h4
    rcases (show X = 0 ∨ 0 < X by omega) with r | r
    · rw [r, Ru_0] at e1; omega
    · exact r
  · intro p
    rcases (show m = 0 ∨ 0 < m by omega) with r | r
    · rw [r, Int.zero_mul] at e1; omega
    · exact r
theorem pv_V {k q : Int} (hk : 0 ≤ k ∧ k < 4294967296) (hq : -650 ≤ q ∧ q ≤ 650) : VOk (k * 2 ^ (q + 3400).toNat) k q ∧ tZ (k * 2 ^ (q + 3400).toNat) = 0 := by
  obtain ⟨e, he⟩ : ∃ e : Nat, (q + 3400).toNat = e := ⟨_, rfl⟩
  have hX : 0 ≤ k * 2 ^ e := Int.mul_nonneg hk.1 (Int.le_of_lt (p2_pos e))
  have h32 : k * 2 ^ e < 2 ^ (32 + e) := by
    rw [p2_add, show (2 : Int) ^ 32 = 4294967296 from rfl]
    exact Int.mul_lt_mul_of_pos_right hk.2 (p2_pos e)
  have ht := tp_lt hX h32
  have hs : sx (k * 2 ^ e) ≤ e := by unfold sx upL; omega
  have hR : Ru (k * 2 ^ e) = k * 2 ^ e := by
    have a := Ru_ge (k * 2 ^ e)
    have e1 : (2 : Int) ^ e = 2 ^ (e - sx (k * 2 ^ e)) * 2 ^ sx (k * 2 ^ e) := by rw [← p2_add]; congr 1; omega
    generalize hsx : sx (k * 2 ^ e) = s at *
    have e2 : k * 2 ^ e = k * 2 ^ (e - s) * 2 ^ s := by rw [Int.mul_assoc, ← e1]
    have b := cl_le (X := k * 2 ^ e) (m := k * 2 ^ (e - s)) (c := s) (by rw [← e2]; exact Int.le_refl _)
    have c := Int.mul_le_mul_of_nonneg_right b (Int.le_of_lt (p2_pos s))
    rw [← e2] at c
    have d : Ru (k * 2 ^ e) = cl (k * 2 ^ e) s * 2 ^ s := by unfold Ru; rw [hsx]
    omega
  have hz : tZ (k * 2 ^ e) = 0 := by
    rcases tZ_01 (k * 2 ^ e) with z | z
    · exact z
    · have a := (tZ_R hX).mp z
      rw [hR] at a
      have b : (2 : Int) ^ (32 + e) ≤ bT := p2_le (by omega)
      omega
  rw [he]
  refine ⟨⟨by unfold dOk; omega, hk.1, fun _ => ?_⟩, hz⟩
  rw [Int.mul_assoc, zQ_R (by omega), he, hR]
theorem mx_nn {F : Int → Int} : ∀ (n : Nat) (V : Int), 0 ≤ V → 0 ≤ itr (fun i V => max V (F i)) n V
  | 0, _, h => h
  | n + 1, V, h => by
    show 0 ≤ max (itr (fun i V => max V (F i)) n V) (F n)
    have := mx_nn (F := F) n V h
    omega

