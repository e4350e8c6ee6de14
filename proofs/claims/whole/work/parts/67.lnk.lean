/-! the class's figure and the reference's -/
def W18 : Int := 2 ^ 1861
theorem W18_pos : 0 < W18 := p2_pos 1861
/-- a number of the class is a number of the reference -/
def EqN (m e k q : Int) : Prop := ∃ t : Nat, m = k * 2 ^ t ∧ (k = 0 ∨ e + t = q)
theorem EqN.nx {k q b : Int} : EqN (k * 2 ^ nt k) (nx k q b) k (b + q) := ⟨nt k, rfl, by
  by_cases h : k = 0
  · exact Or.inl h
  · right
    show (if k = 0 then b else b + q - nt k) + (nt k : Int) = b + q
    rw [if_neg h]; omega⟩
theorem EqN.z {e q : Int} : EqN 0 e 0 q := ⟨0, (Int.zero_mul _).symm, Or.inl rfl⟩
theorem EqN.sg {m e k q : Int} (h : EqN m e k q) : (0 < m ↔ 0 < k) ∧ (m < 0 ↔ k < 0) := by
  obtain ⟨t, h1, -⟩ := h
  have hp := p2_pos t
  rcases (show k < 0 ∨ k = 0 ∨ 0 < k by omega) with c | c | c
  · have := Int.mul_neg_of_neg_of_pos c hp; omega
  · rw [c, Int.zero_mul] at h1; omega
  · have := Int.mul_pos c hp; omega
theorem U3_s {s k1 q1 k2 q2 k3 q3 b : Int} : U3 s k1 q1 k2 q2 k3 q3 b = (1 - 2 * s) * U3 0 k1 q1 k2 q2 k3 q3 b := by
  unfold U3
  rw [show (1 : Int) - 2 * 0 = 1 from rfl, Int.one_mul]
  simp only [Int.mul_assoc]
theorem U3_1 {k1 q1 k2 q2 k3 q3 b : Int} : U3 1 k1 q1 k2 q2 k3 q3 b = -U3 0 k1 q1 k2 q2 k3 q3 b := by
  rw [U3_s, show (1 : Int) - 2 * 1 = -1 from rfl, Int.neg_mul, Int.one_mul]
theorem U3_n {k1 q1 k2 q2 k3 q3 b : Int} : U3 0 (-k1) q1 k2 q2 k3 q3 b = -U3 0 k1 q1 k2 q2 k3 q3 b := by
  unfold U3
  rw [Int.mul_neg, Int.neg_mul, Int.neg_mul, Int.neg_mul]
theorem T1_U {s pw k q : Int} {fm fe : Int → Int} {i : Int} (h : EqN (fm i) (fe i) k q) (hp : 0 ≤ pw + fe i + 1539) : T1 s pw fm fe i * W18 = U3 s k q 1 0 1 0 pw := by
  obtain ⟨t, h1, h2⟩ := h
  unfold T1 U3
  rw [h1]
  rcases h2 with rfl | h2
  · simp only [Int.zero_mul, Int.mul_zero]
  · unfold W18
    rw [show (q + 0 + 0 + pw + 3400).toNat = t + (pw + fe i + 1539).toNat + 1861 by omega, p2_add, p2_add]
    generalize (2 : Int) ^ t = a
    generalize (2 : Int) ^ (pw + fe i + 1539).toNat = b
    generalize (2 : Int) ^ 1861 = c
    simp only [Int.mul_one, Int.mul_assoc]
theorem T2_U {s pw k q k' q' : Int} {fm fe gm ge : Int → Int} {i j : Int} (h : EqN (fm i) (fe i) k q) (h' : EqN (gm j) (ge j) k' q') (hp : 0 ≤ pw + fe i + ge j + 1539) : T2 s pw fm fe i gm ge j * W18 = U3 s k q k' q' 1 0 pw := by
  obtain ⟨t, h1, h2⟩ := h
  obtain ⟨u, g1, g2⟩ := h'
  unfold T2 U3
  rw [h1, g1]
  rcases h2 with rfl | h2
  · simp only [Int.zero_mul, Int.mul_zero]
  rcases g2 with rfl | g2
  · simp only [Int.zero_mul, Int.mul_zero]
  · unfold W18
    rw [show (q + q' + 0 + pw + 3400).toNat = t + u + (pw + fe i + ge j + 1539).toNat + 1861 by omega, p2_add, p2_add, p2_add]
    generalize (2 : Int) ^ t = a
    generalize (2 : Int) ^ u = a'
    generalize (2 : Int) ^ (pw + fe i + ge j + 1539).toNat = b
    generalize (2 : Int) ^ 1861 = c
    simp only [Int.mul_one, Int.mul_assoc, Int.mul_left_comm]
theorem T3_U {s pw k q k' q' k'' q'' : Int} {fm fe gm ge hm he : Int → Int} {i j l : Int} (h : EqN (fm i) (fe i) k q) (h' : EqN (gm j) (ge j) k' q') (h'' : EqN (hm l) (he l) k'' q'') (hp : 0 ≤ pw + fe i + ge j + he l + 1539) : T3 s pw fm fe i gm ge j hm he l * W18 = U3 s k q k' q' k'' q'' pw := by
  obtain ⟨t, h1, h2⟩ := h
  obtain ⟨u, g1, g2⟩ := h'
  obtain ⟨v, f1, f2⟩ := h''
  unfold T3 U3
  rw [h1, g1, f1]
  rcases h2 with rfl | h2
  · simp only [Int.zero_mul, Int.mul_zero]
  rcases g2 with rfl | g2
  · simp only [Int.zero_mul, Int.mul_zero]
  rcases f2 with rfl | f2
  · simp only [Int.zero_mul, Int.mul_zero]
  · unfold W18
    rw [show (q + q' + q'' + pw + 3400).toNat = t + u + v + (pw + fe i + ge j + he l + 1539).toNat + 1861 by omega, p2_add, p2_add, p2_add, p2_add]
    generalize (2 : Int) ^ t = a
    generalize (2 : Int) ^ u = a'
    generalize (2 : Int) ^ v = a''
    generalize (2 : Int) ^ (pw + fe i + ge j + he l + 1539).toNat = b
    generalize (2 : Int) ^ 1861 = c
    simp only [Int.mul_assoc, Int.mul_left_comm]
/-! sums -/
theorem su_mul {F G : Int → Int} {W : Int} : ∀ n : Nat, (∀ j : Int, 0 ≤ j → j < (n : Int) → F j * W = G j) → su F n * W = su G n
  | 0, _ => Int.zero_mul W
  | n + 1, h => by
    show (su F n + F n) * W = su G n + G n
    rw [Int.add_mul, su_mul n (fun j a b => h j a (by omega)), h n (by omega) (by omega)]
theorem su_congr {F G : Int → Int} : ∀ n : Nat, (∀ j : Int, 0 ≤ j → j < (n : Int) → F j = G j) → su F n = su G n
  | 0, _ => rfl
  | n + 1, h => by
    show su F n + F n = su G n + G n
    rw [su_congr n (fun j a b => h j a (by omega)), h n (by omega) (by omega)]
theorem su_zero {F : Int → Int} (n : Nat) (h : ∀ j : Int, 0 ≤ j → j < (n : Int) → F j = 0) : su F n = 0 := by
  induction n with
  | zero => rfl
  | succ n ih =>
    show su F n + F n = 0
    rw [ih (fun j a b => h j a (by omega)), h n (by omega) (by omega)]; rfl
theorem su_ext {F : Int → Int} {n : Nat} : ∀ m : Nat, n ≤ m → (∀ j : Int, (n : Int) ≤ j → j < (m : Int) → F j = 0) → su F m = su F n
  | 0, h, _ => by rw [show n = 0 by omega]
  | m + 1, h, hz => by
    rcases (show n = m + 1 ∨ n ≤ m by omega) with r | r
    · rw [r]
    · show su F m + F m = su F n
      rw [su_ext m r (fun j a b => hz j a (by omega)), hz m (by omega) (by omega), Int.add_zero]
theorem su_upd {F F' : Int → Int} {i : Int} : ∀ n : Nat, 0 ≤ i → i < (n : Int) → (∀ j : Int, 0 ≤ j → j < (n : Int) → j ≠ i → F' j = F j) → su F' n = su F n + (F' i - F i)
  | 0, h0, h1, _ => by omega
  | n + 1, h0, h1, h => by
    show su F' n + F' n = su F n + F n + (F' i - F i)
    rcases (show i = (n : Int) ∨ i < (n : Int) by omega) with r | r
    · rw [su_congr (F := F') (G := F) n (fun j a b => h j a (by omega) (by omega)), r]; omega
    · rw [su_upd n h0 r (fun j a b c => h j a (by omega) c), h n (by omega) (by omega) (by omega)]; omega
theorem su_one {F : Int → Int} {i : Int} (n : Nat) (h0 : 0 ≤ i) (h1 : i < (n : Int)) (hz : ∀ j : Int, 0 ≤ j → j < (n : Int) → j ≠ i → F j = 0) : su F n = F i := by
  rw [su_upd (F := fun _ => 0) (F' := F) n h0 h1 hz, su_zero n (fun _ _ _ => rfl)]; omega
theorem su_add (F G : Int → Int) : ∀ n : Nat, su (fun j => F j + G j) n = su F n + su G n
  | 0 => rfl
  | n + 1 => by
    show su (fun j => F j + G j) n + (F n + G n) = su F n + F n + (su G n + G n)
    rw [su_add F G n]; omega
theorem su_swap (F : Int → Int → Int) (m : Nat) : ∀ n : Nat, su (fun i => su (fun j => F i j) m) n = su (fun j => su (fun i => F i j) n) m
  | 0 => (su_zero m (fun _ _ _ => rfl)).symm
  | n + 1 => by
    show su (fun i => su (fun j => F i j) m) n + su (fun j => F n j) m = su (fun j => su (fun i => F i j) n + F n j) m
    rw [su_swap F m n, su_add]
theorem su_sc {F : Int → Int} {c : Int} : ∀ n : Nat, su (fun j => c * F j) n = c * su F n
  | 0 => (Int.mul_zero c).symm
  | n + 1 => by
    show su (fun j => c * F j) n + c * F n = c * (su F n + F n)
    rw [su_sc n, Int.mul_add]
/-! a list of places and the table of them -/
def gI (i_ k_ : Int → Int) (w : Int → Int → Int → Int) (i j : Int) : Int := if i_ (16 * i + j) ≠ 0 then w i j (k_ (16 * i + j)) else 0
def LM (R : Nat) (n : Nat) (p q v i_ k_ : Int → Int) : Prop := ∀ w : Int → Int → Int → Int, su (fun k => w (p k) (q k) (v k)) n = su (fun i => su (fun j => gI i_ k_ w i j) 16) R
def PMt (n : Nat) (p q v i_ k_ : Int → Int) : Prop := ∀ w : Int → Int → Int → Int, su (fun k => if p k = q k then w (p k) (q k) (v k) else w (p k) (q k) (v k) + w (q k) (p k) (v k)) n = su (fun i => su (fun j => gI i_ k_ w i j) 16) 16
theorem gI_z {i_ k_ : Int → Int} {w : Int → Int → Int → Int} {i j : Int} (h : ∀ k : Int, w i j k = 0) : gI i_ k_ w i j = 0 := by
  unfold gI; split
  · exact h _
  · rfl
theorem gI_upd {i_ k_ : Int → Int} {w : Int → Int → Int → Int} {i j k R : Int} {Rn : Nat} (hR : (Rn : Int) = R) (hi : 0 ≤ i ∧ i < R) (hj : 0 ≤ j ∧ j < 16) : su (fun a => su (fun b => gI (updI i_ (i * 16 + j) 1) (updI k_ (i * 16 + j) k) w a b) 16) Rn = su (fun a => su (fun b => gI i_ k_ w a b) 16) Rn + (w i j k - gI i_ k_ w i j) := by
  have hin : ∀ a b : Int, 0 ≤ b → b < 16 → (a ≠ i ∨ b ≠ j) → gI (updI i_ (i * 16 + j) 1) (updI k_ (i * 16 + j) k) w a b = gI i_ k_ w a b := fun a b h1 h2 h3 => by
    unfold gI
    rw [updI_n (show 16 * a + b ≠ i * 16 + j by omega), updI_n (show 16 * a + b ≠ i * 16 + j by omega)]
  have hii : gI (updI i_ (i * 16 + j) 1) (updI k_ (i * 16 + j) k) w i j = w i j k := by
    unfold gI
    rw [show 16 * i + j = i * 16 + j by omega, updI_s, updI_s, if_pos (by decide)]
  rw [su_upd (F := fun a => su (fun b => gI i_ k_ w a b) 16) (i := i) Rn hi.1 (by omega) (fun a h1 h2 h3 => su_congr 16 (fun b h4 h5 => hin a b h4 h5 (Or.inl h3)))]
  have e := su_upd (F := fun b => gI i_ k_ w i b) (F' := fun b => gI (updI i_ (i * 16 + j) 1) (updI k_ (i * 16 + j) k) w i b) (i := j) 16 hj.1 (by omega) (fun b h4 h5 h6 => hin i b h4 h5 (Or.inr h6))
  rw [hii] at e
  show _ + (su (fun b => gI (updI i_ (i * 16 + j) 1) (updI k_ (i * 16 + j) k) w i b) 16 - su (fun b => gI i_ k_ w i b) 16) = _
  omega
theorem LM.push {R n : Nat} {p q v i_ k_ : Int → Int} {i j k c : Int} (h : LM R n p q v i_ k_) (hc : c = (n : Int)) (hi : 0 ≤ i ∧ i < (R : Int)) (hj : 0 ≤ j ∧ j < 16) (h0 : i_ (i * 16 + j) = 0) : LM R (n + 1) (updI p c i) (updI q c j) (updI v c k) (updI i_ (i * 16 + j) 1) (updI k_ (i * 16 + j) k) := by
  intro w
  have e0 : gI i_ k_ w i j = 0 := if_neg (by rw [show 16 * i + j = i * 16 + j by omega, h0]; decide)
  rw [gI_upd rfl hi hj, ← h w, e0]
  show su (fun k' => w (updI p c i k') (updI q c j k') (updI v c k k')) n + w (updI p c i n) (updI q c j n) (updI v c k n) = _
  rw [← hc, updI_s, updI_s, updI_s, su_congr n (F := fun k' => w (updI p c i k') (updI q c j k') (updI v c k k')) (G := fun k' => w (p k') (q k') (v k')) (fun t h1 h2 => by
    show w (updI p c i t) (updI q c j t) (updI v c k t) = _
    rw [updI_n (by omega), updI_n (by omega), updI_n (by omega)])]
  omega
theorem PMt.push {n : Nat} {p q v i_ k_ : Int → Int} {i j k c : Int} (h : PMt n p q v i_ k_) (hc : c = (n : Int)) (hi : 0 ≤ i ∧ i < 16) (hj : 0 ≤ j ∧ j < 16) (h0 : i_ (i * 16 + j) = 0) (h1 : i_ (j * 16 + i) = 0) : PMt (n + 1) (updI p c i) (updI q c j) (updI v c k) (updI (updI i_ (i * 16 + j) 1) (j * 16 + i) 1) (updI (updI k_ (i * 16 + j) k) (j * 16 + i) k) := by
  intro w
  have e0 : gI i_ k_ w i j = 0 := if_neg (by rw [show 16 * i + j = i * 16 + j by omega, h0]; decide)
  rw [gI_upd (Rn := 16) rfl hj hi, gI_upd (Rn := 16) rfl hi hj, ← h w, e0]
  show su (fun t => if updI p c i t = updI q c j t then w (updI p c i t) (updI q c j t) (updI v c k t) else w (updI p c i t) (updI q c j t) (updI v c k t) + w (updI q c j t) (updI p c i t) (updI v c k t)) n + (if updI p c i n = updI q c j n then w (updI p c i n) (updI q c j n) (updI v c k n) else w (updI p c i n) (updI q c j n) (updI v c k n) + w (updI q c j n) (updI p c i n) (updI v c k n)) = _
  rw [← hc, updI_s, updI_s, updI_s, su_congr n (F := fun t => if updI p c i t = updI q c j t then w (updI p c i t) (updI q c j t) (updI v c k t) else w (updI p c i t) (updI q c j t) (updI v c k t) + w (updI q c j t) (updI p c i t) (updI v c k t)) (G := fun t => if p t = q t then w (p t) (q t) (v t) else w (p t) (q t) (v t) + w (q t) (p t) (v t)) (fun t h1 h2 => by
    show (if updI p c i t = updI q c j t then w (updI p c i t) (updI q c j t) (updI v c k t) else w (updI p c i t) (updI q c j t) (updI v c k t) + w (updI q c j t) (updI p c i t) (updI v c k t)) = _
    rw [updI_n (by omega), updI_n (by omega), updI_n (by omega)])]
  by_cases e : i = j
  · have e1 : gI (updI i_ (i * 16 + j) 1) (updI k_ (i * 16 + j) k) w j i = w i j k := by
      unfold gI
      rw [← e, show 16 * i + i = i * 16 + i by omega, updI_s, updI_s, if_pos (by decide)]
    rw [if_pos e, e1, ← e]; omega
  · have e1 : gI (updI i_ (i * 16 + j) 1) (updI k_ (i * 16 + j) k) w j i = 0 := by
      unfold gI
      rw [updI_n (show 16 * j + i ≠ i * 16 + j by omega), show 16 * j + i = j * 16 + i by omega, h1, if_neg (by decide)]
    rw [if_neg e, e1]; omega
/-! places that are taken -/
theorem su_nn {F : Int → Int} : ∀ n : Nat, (∀ j : Int, 0 ≤ j → j < (n : Int) → 0 ≤ F j) → 0 ≤ su F n
  | 0, _ => Int.le_refl 0
  | n + 1, h => by
    have h1 := su_nn (F := F) n (fun j a b => h j a (by omega))
    have h2 := h n (by omega) (by omega)
    show 0 ≤ su F n + F n
    omega
theorem su_le {F : Int → Int} {i : Int} : ∀ n : Nat, (∀ j : Int, 0 ≤ j → j < (n : Int) → 0 ≤ F j) → 0 ≤ i → i < (n : Int) → F i ≤ su F n
  | 0, _, h0, h1 => by omega
  | n + 1, h, h0, h1 => by
    have h2 := su_nn (F := F) n (fun j a b => h j a (by omega))
    have h3 := h n (by omega) (by omega)
    show F i ≤ su F n + F n
    rcases (show i = (n : Int) ∨ i < (n : Int) by omega) with r | r
    · rw [r]; omega
    · have := su_le n (fun j a b => h j a (by omega)) h0 r; omega
theorem gI_at {R : Nat} {i_ k_ : Int → Int} {i j : Int} (hi : 0 ≤ i ∧ i < (R : Int)) (hj : 0 ≤ j ∧ j < 16) : su (fun a => su (fun b => gI i_ k_ (fun x y _ => if x = i ∧ y = j then 1 else 0) a b) 16) R = if i_ (16 * i + j) ≠ 0 then 1 else 0 := by
  rw [su_one (i := i) R hi.1 hi.2 (fun a h1 h2 h3 => su_zero 16 (fun b h4 h5 => gI_z (fun k => if_neg (fun z => h3 z.1))))]
  rw [su_one (i := j) 16 hj.1 (by omega) (fun b h4 h5 h6 => gI_z (fun k => if_neg (fun z => h6 z.2)))]
  unfold gI
  dsimp only
  rw [if_pos (c := i = i ∧ j = j) ⟨rfl, rfl⟩]

