/-! how the calls change what class and reference hold -/
theorem pt_m {k : Int} (h : -4294967296 < k ∧ k < 4294967296) : -9007199254740992 < k * 2 ^ nt k ∧ k * 2 ^ nt k < 9007199254740992 := by
  rcases (show k = 0 ∨ 0 < k ∨ k < 0 by omega) with r | r | r
  · rw [r, Int.zero_mul]; omega
  · have := nt_m r (by omega); omega
  · have := nt_m (k := -k) (by omega) (by omega)
    rw [nt_neg, Int.neg_mul] at this; omega
theorem pt_x {k b : Int} (h : -4294967296 < k ∧ k < 4294967296) : b - 55 ≤ nx k (-3) b ∧ nx k (-3) b ≤ b := by
  unfold nx; split
  · omega
  · rcases (show 0 < k ∨ k < 0 by omega) with r | r
    · have := nt_r r (by omega); omega
    · have := nt_r (k := -k) (by omega) (by omega)
      rw [nt_neg] at this; omega
theorem NB.upd {n lo hi i v x : Int} {fm fe : Int → Int} (h : NB n lo hi fm fe) (hv : -9007199254740992 < v ∧ v < 9007199254740992) (hx : lo ≤ x ∧ x ≤ hi) : NB n lo hi (updI fm i v) (updI fe i x) := fun j h1 h2 => by
  by_cases e : j = i
  · rw [e, updI_s, updI_s]; exact ⟨hv, hx⟩
  · rw [updI_n e, updI_n e]; exact h j h1 h2
theorem NB.cu {n lo hi i v x z : Int} {fm fe : Int → Int} (h : NB n lo hi fm fe) (hv : -9007199254740992 < v ∧ v < 9007199254740992) (hx : lo ≤ x ∧ x ≤ hi) : NB n lo hi (cu z fm i v) (cu z fe i x) := by
  by_cases e : z = 0
  · rw [cu_0 e, cu_0 e]; exact h
  · rw [cu_1 e, cu_1 e]; exact h.upd hv hx
theorem NK.upd {n i v : Int} {k : Int → Int} (h : NK n k) (hv : -4294967296 < v ∧ v < 4294967296) : NK n (updI k i v) := fun j h1 h2 => by
  by_cases e : j = i
  · rw [e, updI_s]; exact hv
  · rw [updI_n e]; exact h j h1 h2
theorem NZ.upd {n i v : Int} {k : Int → Int} (h : NZ n k) (hv : v = 0 ∨ v = 1) : NZ n (updI k i v) := fun j h1 h2 => by
  by_cases e : j = i
  · rw [e, updI_s]; exact hv
  · rw [updI_n e]; exact h j h1 h2
theorem NQ.upd {n i v : Int} {k : Int → Int} (h : NQ n k) (hv : -650 ≤ v ∧ v ≤ 650) : NQ n (updI k i v) := fun j h1 h2 => by
  by_cases e : j = i
  · rw [e, updI_s]; exact hv
  · rw [updI_n e]; exact h j h1 h2
theorem EqN.q {m e k q q' : Int} (h : EqN m e k q) (hq : q = q') : EqN m e k q' := by rw [← hq]; exact h
theorem EqU {fm fe kk kq : Int → Int} {i v x k q j : Int} (h : j ≠ i → EqN (fm j) (fe j) (kk j) (kq j)) (hn : EqN v x k q) : EqN (updI fm i v j) (updI fe i x j) (updI kk i k j) (updI kq i q j) := by
  by_cases e : j = i
  · rw [e, updI_s, updI_s, updI_s, updI_s]; exact hn
  · rw [updI_n e, updI_n e, updI_n e, updI_n e]; exact h e
theorem EqU3 {fm fe kk : Int → Int} {i v x k q j : Int} (h : j ≠ i → EqN (fm j) (fe j) (kk j) q) (hn : EqN v x k q) : EqN (updI fm i v j) (updI fe i x j) (updI kk i k j) q := by
  by_cases e : j = i
  · rw [e, updI_s, updI_s, updI_s]; exact hn
  · rw [updI_n e, updI_n e, updI_n e]; exact h e

theorem cu_n {z i v j : Int} {f : Int → Int} (h : j ≠ i) : cu z f i v j = f j := by
  by_cases e : z = 0
  · rw [cu_0 e]
  · rw [cu_1 e, updI_n h]
def dCon (d : DS) (k : Int) : DS := (updI d.om 0 (k * 2 ^ nt k), updI d.oe 0 (nx k (-3) 0), d.nm, d.ne, d.cm, d.ce, d.rl, d.rlm, d.rle, d.rhm, d.rhe, d.rvm, d.rve, d.rc, d.cl, d.clm, d.cle, d.chm, d.che, d.cvm, d.cve, d.cc, d.e1, d.e2, d.em, d.ee, d.ec, d.p1, d.p2, d.pm, d.pe, d.pc)
def mCon (M : MS) (k : Int) : MS := (M.rw, M.cn, M.en, M.pr, -k, M.ka, M.kc, M.kq, M.kl, M.kh, M.krl, M.krh, M.kx, M.ky, M.xb, M.yb, M.ai, M.qi, M.li, M.hi, M.rli, M.rhi)
theorem DI_Con {d : DS} {M : MS} (hd : DI d) (hM : MI M) (hR : Rel d M) {k : Int} (hk : -4294967296 < k ∧ k < 4294967296) : DI (dCon d k) :=
  ⟨hd.rc, hd.cc, hd.ec, hd.pc, hd.o.upd (pt_m hk) (by have := pt_x (b := 0) hk; omega), hd.n, hd.c, hd.rl, hd.rh, hd.rv, hd.cl, hd.ch, hd.cv, hd.e, hd.ev, hd.p, hd.pv⟩
theorem MI_Con {M : MS} (hM : MI M) {k : Int} (hk : -4294967296 < k ∧ k < 4294967296) : MI (mCon M k) :=
  ⟨hM.rw, hM.cn, hM.en, hM.pr, by show -4294967296 < -k ∧ -k < 4294967296; omega, hM.ka, hM.kc, hM.kq, hM.kl, hM.kh, hM.krl, hM.krh, hM.kx, hM.ky, hM.xb, hM.yb, hM.ai, hM.qi, hM.li, hM.hi, hM.rli, hM.rhi⟩
theorem Rel_Con {d : DS} {M : MS} (hd : DI d) (hM : MI M) (hR : Rel d M) {k : Int} (hk : -4294967296 < k ∧ k < 4294967296) : Rel (dCon d k) (mCon M k) :=
  ⟨hR.n, by
    show EqN (updI d.om 0 (k * 2 ^ nt k) 0) (updI d.oe 0 (nx k (-3) 0) 0) (- -k) (-3)
    rw [updI_s, updI_s, Int.neg_neg]; exact EqN.nx.q (by omega), hR.one, hR.c, hR.r, hR.y, hR.l, hR.x, hR.e, hR.eb, hR.p, hR.pb⟩
def dRow (d : DS) (has k k' : Int) : DS := (d.om, d.oe, d.nm, d.ne, d.cm, d.ce, updI d.rl d.rc has, cu (has % 2) d.rlm d.rc (k * 2 ^ nt k), cu (has % 2) d.rle d.rc (nx k (-3) 0), cu (has / 2 % 2 * 2) d.rhm d.rc (k' * 2 ^ nt k'), cu (has / 2 % 2 * 2) d.rhe d.rc (nx k' (-3) 0), d.rvm, d.rve, d.rc + 1, d.cl, d.clm, d.cle, d.chm, d.che, d.cvm, d.cve, d.cc, d.e1, d.e2, d.em, d.ee, d.ec, d.p1, d.p2, d.pm, d.pe, d.pc)
def mRow (M : MS) (has k k' : Int) : MS := (M.rw + 1, M.cn, M.en, M.pr, M.ko, M.ka, M.kc, M.kq, M.kl, M.kh, updI M.krl M.rw k, updI M.krh M.rw k', M.kx, M.ky, M.xb, M.yb, M.ai, M.qi, M.li, M.hi, updI M.rli M.rw (has % 2), updI M.rhi M.rw (has / 2 % 2))
theorem DI_Row {d : DS} {M : MS} (hd : DI d) (hM : MI M) (hR : Rel d M) {has k k' : Int} (hh : 0 ≤ has ∧ has ≤ 3) (hk : -4294967296 < k ∧ k < 4294967296) (hk' : -4294967296 < k' ∧ k' < 4294967296) (hlt : M.rw < 12) : DI (dRow d has k k') :=
  ⟨⟨by show 0 ≤ d.rc + 1; have := hd.rc; omega, by show d.rc + 1 ≤ 12; have := hR.n.1; omega⟩, hd.cc, hd.ec, hd.pc, hd.o, hd.n, hd.c, hd.rl.cu (pt_m hk) (by have := pt_x (b := 0) hk; omega), hd.rh.cu (pt_m hk') (by have := pt_x (b := 0) hk'; omega), hd.rv, hd.cl, hd.ch, hd.cv, hd.e, hd.ev, hd.p, hd.pv⟩
theorem MI_Row {M : MS} (hM : MI M) {has k k' : Int} (hh : 0 ≤ has ∧ has ≤ 3) (hk : -4294967296 < k ∧ k < 4294967296) (hk' : -4294967296 < k' ∧ k' < 4294967296) (hlt : M.rw < 12) : MI (mRow M has k k') :=
  ⟨⟨by show 0 ≤ M.rw + 1; have := hM.rw; omega, by show M.rw + 1 ≤ 12; omega⟩, hM.cn, hM.en, hM.pr, hM.ko, hM.ka, hM.kc, hM.kq, hM.kl, hM.kh, hM.krl.upd hk, hM.krh.upd hk', hM.kx, hM.ky, hM.xb, hM.yb, hM.ai, hM.qi, hM.li, hM.hi, hM.rli.upd (by omega), hM.rhi.upd (by omega)⟩
theorem Rel_Row {d : DS} {M : MS} (hd : DI d) (hM : MI M) (hR : Rel d M) {has k k' : Int} (hh : 0 ≤ has ∧ has ≤ 3) (hk : -4294967296 < k ∧ k < 4294967296) (hk' : -4294967296 < k' ∧ k' < 4294967296) (hlt : M.rw < 12) : Rel (dRow d has k k') (mRow M has k k') :=
  ⟨⟨by show d.rc + 1 = M.rw + 1; rw [hR.n.1], hR.n.2⟩, hR.o, hR.one, hR.c, fun i h1 h2 => by
    have h2 : i < M.rw + 1 := h2
    show (updI d.rl d.rc has i % 2 = updI M.rli M.rw (has % 2) i ∧ updI d.rl d.rc has i / 2 % 2 = updI M.rhi M.rw (has / 2 % 2) i) ∧ (updI M.rli M.rw (has % 2) i ≠ 0 → EqN (cu (has % 2) d.rlm d.rc (k * 2 ^ nt k) i) (cu (has % 2) d.rle d.rc (nx k (-3) 0) i) (updI M.krl M.rw k i) (-3)) ∧ (updI M.rhi M.rw (has / 2 % 2) i ≠ 0 → EqN (cu (has / 2 % 2 * 2) d.rhm d.rc (k' * 2 ^ nt k') i) (cu (has / 2 % 2 * 2) d.rhe d.rc (nx k' (-3) 0) i) (updI M.krh M.rw k' i) (-3))
    rw [hR.n.1]
    by_cases e : i = M.rw
    · rw [e, updI_s, updI_s, updI_s, updI_s, updI_s]
      exact ⟨⟨rfl, rfl⟩, fun z => by rw [cu_1 z, cu_1 z, updI_s, updI_s]; exact EqN.nx.q (by omega), fun z => by rw [cu_1 (by omega), cu_1 (by omega), updI_s, updI_s]; exact EqN.nx.q (by omega)⟩
    · rw [updI_n e, updI_n e, updI_n e, updI_n e, updI_n e, cu_n e, cu_n e, cu_n e, cu_n e]
      exact hR.r i h1 (by omega), hR.y, hR.l, hR.x, hR.e, fun i j h1 h2 h3 h4 z => by
    have := hR.eb i j h1 h2 h3 h4 z
    exact ⟨by show i < M.rw + 1; omega, this.2⟩, hR.p, hR.pb⟩
def dCol (d : DS) (kc has k k' : Int) : DS := (d.om, d.oe, d.nm, d.ne, updI d.cm d.cc (kc * 2 ^ nt kc), updI d.ce d.cc (nx kc (-3) 0), d.rl, d.rlm, d.rle, d.rhm, d.rhe, d.rvm, d.rve, d.rc, updI d.cl d.cc has, cu (has % 2) d.clm d.cc (k * 2 ^ nt k), cu (has % 2) d.cle d.cc (nx k (-3) 0), cu (has / 2 % 2 * 2) d.chm d.cc (k' * 2 ^ nt k'), cu (has / 2 % 2 * 2) d.che d.cc (nx k' (-3) 0), d.cvm, d.cve, d.cc + 1, d.e1, d.e2, d.em, d.ee, d.ec, d.p1, d.p2, d.pm, d.pe, d.pc)
def mCol (M : MS) (kc has k k' : Int) : MS := (M.rw, M.cn + 1, M.en, M.pr, M.ko, M.ka, updI M.kc M.cn kc, M.kq, updI M.kl M.cn k, updI M.kh M.cn k', M.krl, M.krh, M.kx, M.ky, M.xb, M.yb, M.ai, M.qi, updI M.li M.cn (has % 2), updI M.hi M.cn (has / 2 % 2), M.rli, M.rhi)
theorem DI_Col {d : DS} {M : MS} (hd : DI d) (hM : MI M) (hR : Rel d M) {kc has k k' : Int} (hh : 0 ≤ has ∧ has ≤ 3) (hkc : -4294967296 < kc ∧ kc < 4294967296) (hk : -4294967296 < k ∧ k < 4294967296) (hk' : -4294967296 < k' ∧ k' < 4294967296) (hlt : M.cn < 16) : DI (dCol d kc has k k') :=
  ⟨hd.rc, ⟨by show 0 ≤ d.cc + 1; have := hd.cc; omega, by show d.cc + 1 ≤ 16; have := hR.n.2.1; omega⟩, hd.ec, hd.pc, hd.o, hd.n, hd.c.upd (pt_m hkc) (by have := pt_x (b := 0) hkc; omega), hd.rl, hd.rh, hd.rv, hd.cl.cu (pt_m hk) (by have := pt_x (b := 0) hk; omega), hd.ch.cu (pt_m hk') (by have := pt_x (b := 0) hk'; omega), hd.cv, hd.e, hd.ev, hd.p, hd.pv⟩
theorem MI_Col {M : MS} (hM : MI M) {kc has k k' : Int} (hh : 0 ≤ has ∧ has ≤ 3) (hkc : -4294967296 < kc ∧ kc < 4294967296) (hk : -4294967296 < k ∧ k < 4294967296) (hk' : -4294967296 < k' ∧ k' < 4294967296) (hlt : M.cn < 16) : MI (mCol M kc has k k') :=
  ⟨hM.rw, ⟨by show 0 ≤ M.cn + 1; have := hM.cn; omega, by show M.cn + 1 ≤ 16; omega⟩, hM.en, hM.pr, hM.ko, hM.ka, hM.kc.upd hkc, hM.kq, hM.kl.upd hk, hM.kh.upd hk', hM.krl, hM.krh, hM.kx, hM.ky, hM.xb, hM.yb, hM.ai, hM.qi, hM.li.upd (by omega), hM.hi.upd (by omega), hM.rli, hM.rhi⟩
theorem Rel_Col {d : DS} {M : MS} (hd : DI d) (hM : MI M) (hR : Rel d M) {kc has k k' : Int} (hh : 0 ≤ has ∧ has ≤ 3) (hkc : -4294967296 < kc ∧ kc < 4294967296) (hk : -4294967296 < k ∧ k < 4294967296) (hk' : -4294967296 < k' ∧ k' < 4294967296) (hlt : M.cn < 16) : Rel (dCol d kc has k k') (mCol M kc has k k') :=
  ⟨⟨hR.n.1, by show d.cc + 1 = M.cn + 1; rw [hR.n.2.1], hR.n.2.2⟩, hR.o, hR.one, fun j h1 h2 => by
    have h2 : j < M.cn + 1 := h2
    show EqN (updI d.cm d.cc (kc * 2 ^ nt kc) j) (updI d.ce d.cc (nx kc (-3) 0) j) (updI M.kc M.cn kc j) (-3)
    rw [hR.n.2.1]
    exact EqU3 (fun e => hR.c j h1 (by omega)) (EqN.nx.q (by omega)), hR.r, hR.y, fun i h1 h2 => by
    have h2 : i < M.cn + 1 := h2
    show (updI d.cl d.cc has i % 2 = updI M.li M.cn (has % 2) i ∧ updI d.cl d.cc has i / 2 % 2 = updI M.hi M.cn (has / 2 % 2) i) ∧ (updI M.li M.cn (has % 2) i ≠ 0 → EqN (cu (has % 2) d.clm d.cc (k * 2 ^ nt k) i) (cu (has % 2) d.cle d.cc (nx k (-3) 0) i) (updI M.kl M.cn k i) (-3)) ∧ (updI M.hi M.cn (has / 2 % 2) i ≠ 0 → EqN (cu (has / 2 % 2 * 2) d.chm d.cc (k' * 2 ^ nt k') i) (cu (has / 2 % 2 * 2) d.che d.cc (nx k' (-3) 0) i) (updI M.kh M.cn k' i) (-3))
    rw [hR.n.2.1]
    by_cases e : i = M.cn
    · rw [e, updI_s, updI_s, updI_s, updI_s, updI_s]
      exact ⟨⟨rfl, rfl⟩, fun z => by rw [cu_1 z, cu_1 z, updI_s, updI_s]; exact EqN.nx.q (by omega), fun z => by rw [cu_1 (by omega), cu_1 (by omega), updI_s, updI_s]; exact EqN.nx.q (by omega)⟩
    · rw [updI_n e, updI_n e, updI_n e, updI_n e, updI_n e, cu_n e, cu_n e, cu_n e, cu_n e]
      exact hR.l i h1 (by omega), hR.x, hR.e, fun i j h1 h2 h3 h4 z => by
    have := hR.eb i j h1 h2 h3 h4 z
    exact ⟨this.1, by show j < M.cn + 1; omega⟩, hR.p, fun i j h1 h2 h3 h4 z => by
    have := hR.pb i j h1 h2 h3 h4 z
    exact ⟨by show i < M.cn + 1; omega, by show j < M.cn + 1; omega⟩⟩
def dEnt (d : DS) (i j k : Int) : DS := (d.om, d.oe, d.nm, d.ne, d.cm, d.ce, d.rl, d.rlm, d.rle, d.rhm, d.rhe, d.rvm, d.rve, d.rc, d.cl, d.clm, d.cle, d.chm, d.che, d.cvm, d.cve, d.cc, updI d.e1 d.ec i, updI d.e2 d.ec j, updI d.em d.ec (k * 2 ^ nt k), updI d.ee d.ec (nx k (-3) 0), d.ec + 1, d.p1, d.p2, d.pm, d.pe, d.pc)
def mEnt (M : MS) (i j k : Int) : MS := (M.rw, M.cn, M.en + 1, M.pr, M.ko, updI M.ka (i * 16 + j) k, M.kc, M.kq, M.kl, M.kh, M.krl, M.krh, M.kx, M.ky, M.xb, M.yb, updI M.ai (i * 16 + j) 1, M.qi, M.li, M.hi, M.rli, M.rhi)
theorem DI_Ent {d : DS} {M : MS} (hd : DI d) (hM : MI M) (hR : Rel d M) {i j k : Int} (hk : -4294967296 < k ∧ k < 4294967296) (hi : 0 ≤ i ∧ i < M.rw) (hj : 0 ≤ j ∧ j < M.cn) (hz : M.ai (i * 16 + j) = 0) (hlt : M.en < 100) : DI (dEnt d i j k) :=
  ⟨hd.rc, hd.cc, ⟨by show 0 ≤ d.ec + 1; have := hd.ec; omega, by show d.ec + 1 ≤ 100; have := hR.n.2.2.1; omega⟩, hd.pc, hd.o, hd.n, hd.c, hd.rl, hd.rh, hd.rv, hd.cl, hd.ch, hd.cv, fun t h1 h2 => by
    have h2 : t < d.ec + 1 := h2
    show (0 ≤ updI d.e1 d.ec i t ∧ updI d.e1 d.ec i t < 12) ∧ 0 ≤ updI d.e2 d.ec j t ∧ updI d.e2 d.ec j t < 16
    have hrw := hM.rw
    have hcn := hM.cn
    by_cases e : t = d.ec
    · rw [e, updI_s, updI_s]; omega
    · rw [updI_n e, updI_n e]; exact hd.e t h1 (by omega), hd.ev.upd (pt_m hk) (by have := pt_x (b := 0) hk; omega), hd.p, hd.pv⟩
theorem MI_Ent {M : MS} (hM : MI M) {i j k : Int} (hk : -4294967296 < k ∧ k < 4294967296) (hi : 0 ≤ i ∧ i < M.rw) (hj : 0 ≤ j ∧ j < M.cn) (hz : M.ai (i * 16 + j) = 0) (hlt : M.en < 100) : MI (mEnt M i j k) :=
  ⟨hM.rw, hM.cn, ⟨by show 0 ≤ M.en + 1; have := hM.en; omega, by show M.en + 1 ≤ 100; omega⟩, hM.pr, hM.ko, hM.ka.upd hk, hM.kc, hM.kq, hM.kl, hM.kh, hM.krl, hM.krh, hM.kx, hM.ky, hM.xb, hM.yb, hM.ai.upd (Or.inr rfl), hM.qi, hM.li, hM.hi, hM.rli, hM.rhi⟩
theorem Rel_Ent {d : DS} {M : MS} (hd : DI d) (hM : MI M) (hR : Rel d M) {i j k : Int} (hk : -4294967296 < k ∧ k < 4294967296) (hi : 0 ≤ i ∧ i < M.rw) (hj : 0 ≤ j ∧ j < M.cn) (hz : M.ai (i * 16 + j) = 0) (hlt : M.en < 100) : Rel (dEnt d i j k) (mEnt M i j k) :=
  ⟨⟨hR.n.1, hR.n.2.1, by show d.ec + 1 = M.en + 1; rw [hR.n.2.2.1], hR.n.2.2.2⟩, hR.o, hR.one, hR.c, hR.r, hR.y, hR.l, hR.x, by
    obtain ⟨v, h1, h2⟩ := hR.e
    have hen := hM.en
    have hrw := hM.rw
    have hcn := hM.cn
    refine ⟨updI v M.en k, fun t a1 a2 => ?_, ?_⟩
    · have a2 : t < M.en + 1 := a2
      show EqN (updI d.em d.ec (k * 2 ^ nt k) t) (updI d.ee d.ec (nx k (-3) 0) t) (updI v M.en k t) (-3)
      rw [hR.n.2.2.1]
      exact EqU3 (fun e => h1 t a1 (by omega)) (EqN.nx.q (by omega))
    · show LM 12 (M.en + 1).toNat (updI d.e1 d.ec i) (updI d.e2 d.ec j) (updI v M.en k) (updI M.ai (i * 16 + j) 1) (updI M.ka (i * 16 + j) k)
      rw [hR.n.2.2.1, show (M.en + 1).toNat = M.en.toNat + 1 by omega]
      exact h2.push (by omega) (by omega) (by omega) hz, fun a b h1 h2 h3 h4 z => by
    have z : updI M.ai (i * 16 + j) 1 (16 * a + b) ≠ 0 := z
    by_cases e : 16 * a + b = i * 16 + j
    · have hcn := hM.cn
      exact ⟨show a < M.rw by omega, show b < M.cn by omega⟩
    · rw [updI_n e] at z; exact hR.eb a b h1 h2 h3 h4 z, hR.p, hR.pb⟩
def dPar (d : DS) (i j k : Int) : DS := (d.om, d.oe, d.nm, d.ne, d.cm, d.ce, d.rl, d.rlm, d.rle, d.rhm, d.rhe, d.rvm, d.rve, d.rc, d.cl, d.clm, d.cle, d.chm, d.che, d.cvm, d.cve, d.cc, d.e1, d.e2, d.em, d.ee, d.ec, updI d.p1 d.pc i, updI d.p2 d.pc j, updI d.pm d.pc (k * 2 ^ nt k), updI d.pe d.pc (nx k (-3) 0), d.pc + 1)
def mPar (M : MS) (i j k : Int) : MS := (M.rw, M.cn, M.en, M.pr + 1, M.ko, M.ka, M.kc, updI (updI M.kq (i * 16 + j) k) (j * 16 + i) k, M.kl, M.kh, M.krl, M.krh, M.kx, M.ky, M.xb, M.yb, M.ai, updI (updI M.qi (i * 16 + j) 1) (j * 16 + i) 1, M.li, M.hi, M.rli, M.rhi)
theorem DI_Par {d : DS} {M : MS} (hd : DI d) (hM : MI M) (hR : Rel d M) {i j k : Int} (hk : -4294967296 < k ∧ k < 4294967296) (hi : 0 ≤ i ∧ i < M.cn) (hj : 0 ≤ j ∧ j < M.cn) (hz : M.qi (i * 16 + j) = 0) (hz' : M.qi (j * 16 + i) = 0) (hlt : M.pr < 60) : DI (dPar d i j k) :=
  ⟨hd.rc, hd.cc, hd.ec, ⟨by show 0 ≤ d.pc + 1; have := hd.pc; omega, by show d.pc + 1 ≤ 60; have := hR.n.2.2.2; omega⟩, hd.o, hd.n, hd.c, hd.rl, hd.rh, hd.rv, hd.cl, hd.ch, hd.cv, hd.e, hd.ev, fun t h1 h2 => by
    have h2 : t < d.pc + 1 := h2
    show (0 ≤ updI d.p1 d.pc i t ∧ updI d.p1 d.pc i t < 16) ∧ 0 ≤ updI d.p2 d.pc j t ∧ updI d.p2 d.pc j t < 16
    have hcn := hM.cn
    by_cases e : t = d.pc
    · rw [e, updI_s, updI_s]; omega
    · rw [updI_n e, updI_n e]; exact hd.p t h1 (by omega), hd.pv.upd (pt_m hk) (by have := pt_x (b := 0) hk; omega)⟩
theorem MI_Par {M : MS} (hM : MI M) {i j k : Int} (hk : -4294967296 < k ∧ k < 4294967296) (hi : 0 ≤ i ∧ i < M.cn) (hj : 0 ≤ j ∧ j < M.cn) (hz : M.qi (i * 16 + j) = 0) (hz' : M.qi (j * 16 + i) = 0) (hlt : M.pr < 60) : MI (mPar M i j k) :=
  ⟨hM.rw, hM.cn, hM.en, ⟨by show 0 ≤ M.pr + 1; have := hM.pr; omega, by show M.pr + 1 ≤ 60; omega⟩, hM.ko, hM.ka, hM.kc, (hM.kq.upd hk).upd hk, hM.kl, hM.kh, hM.krl, hM.krh, hM.kx, hM.ky, hM.xb, hM.yb, hM.ai, (hM.qi.upd (Or.inr rfl)).upd (Or.inr rfl), hM.li, hM.hi, hM.rli, hM.rhi⟩
theorem Rel_Par {d : DS} {M : MS} (hd : DI d) (hM : MI M) (hR : Rel d M) {i j k : Int} (hk : -4294967296 < k ∧ k < 4294967296) (hi : 0 ≤ i ∧ i < M.cn) (hj : 0 ≤ j ∧ j < M.cn) (hz : M.qi (i * 16 + j) = 0) (hz' : M.qi (j * 16 + i) = 0) (hlt : M.pr < 60) : Rel (dPar d i j k) (mPar M i j k) :=
  ⟨⟨hR.n.1, hR.n.2.1, hR.n.2.2.1, by show d.pc + 1 = M.pr + 1; rw [hR.n.2.2.2]⟩, hR.o, hR.one, hR.c, hR.r, hR.y, hR.l, hR.x, hR.e, hR.eb, by
    obtain ⟨v, h1, h2⟩ := hR.p
    have hpr := hM.pr
    have hcn := hM.cn
    refine ⟨updI v M.pr k, fun t a1 a2 => ?_, ?_⟩
    · have a2 : t < M.pr + 1 := a2
      show EqN (updI d.pm d.pc (k * 2 ^ nt k) t) (updI d.pe d.pc (nx k (-3) 0) t) (updI v M.pr k t) (-3)
      rw [hR.n.2.2.2]
      exact EqU3 (fun e => h1 t a1 (by omega)) (EqN.nx.q (by omega))
    · show PMt (M.pr + 1).toNat (updI d.p1 d.pc i) (updI d.p2 d.pc j) (updI v M.pr k) (updI (updI M.qi (i * 16 + j) 1) (j * 16 + i) 1) (updI (updI M.kq (i * 16 + j) k) (j * 16 + i) k)
      rw [hR.n.2.2.2, show (M.pr + 1).toNat = M.pr.toNat + 1 by omega]
      exact h2.push (by omega) (by omega) (by omega) hz hz', fun a b h1 h2 h3 h4 z => by
    have z : updI (updI M.qi (i * 16 + j) 1) (j * 16 + i) 1 (16 * a + b) ≠ 0 := z
    have hcn := hM.cn
    by_cases e : 16 * a + b = j * 16 + i
    · exact ⟨show a < M.cn by omega, show b < M.cn by omega⟩
    · rw [updI_n e] at z
      by_cases e2 : 16 * a + b = i * 16 + j
      · exact ⟨show a < M.cn by omega, show b < M.cn by omega⟩
      · rw [updI_n e2] at z; exact hR.pb a b h1 h2 h3 h4 z⟩
def dSX (d : DS) (j k by_ : Int) : DS := (d.om, d.oe, d.nm, d.ne, d.cm, d.ce, d.rl, d.rlm, d.rle, d.rhm, d.rhe, d.rvm, d.rve, d.rc, d.cl, d.clm, d.cle, d.chm, d.che, updI d.cvm j (k * 2 ^ nt k), updI d.cve j (nx k (-3) by_), d.cc, d.e1, d.e2, d.em, d.ee, d.ec, d.p1, d.p2, d.pm, d.pe, d.pc)
def mSX (M : MS) (j k by_ : Int) : MS := (M.rw, M.cn, M.en, M.pr, M.ko, M.ka, M.kc, M.kq, M.kl, M.kh, M.krl, M.krh, updI M.kx j k, M.ky, updI M.xb j (-3 + by_), M.yb, M.ai, M.qi, M.li, M.hi, M.rli, M.rhi)
theorem DI_SX {d : DS} {M : MS} (hd : DI d) (hM : MI M) (hR : Rel d M) {j k by_ : Int} (hk : -4294967296 < k ∧ k < 4294967296) (hby : -600 ≤ by_ ∧ by_ ≤ 600) : DI (dSX d j k by_) :=
  ⟨hd.rc, hd.cc, hd.ec, hd.pc, hd.o, hd.n, hd.c, hd.rl, hd.rh, hd.rv, hd.cl, hd.ch, hd.cv.upd (pt_m hk) (by have := pt_x (b := by_) hk; omega), hd.e, hd.ev, hd.p, hd.pv⟩
theorem MI_SX {M : MS} (hM : MI M) {j k by_ : Int} (hk : -4294967296 < k ∧ k < 4294967296) (hby : -600 ≤ by_ ∧ by_ ≤ 600) : MI (mSX M j k by_) :=
  ⟨hM.rw, hM.cn, hM.en, hM.pr, hM.ko, hM.ka, hM.kc, hM.kq, hM.kl, hM.kh, hM.krl, hM.krh, hM.kx.upd hk, hM.ky, hM.xb.upd (by omega), hM.yb, hM.ai, hM.qi, hM.li, hM.hi, hM.rli, hM.rhi⟩
theorem Rel_SX {d : DS} {M : MS} (hd : DI d) (hM : MI M) (hR : Rel d M) {j k by_ : Int} (hk : -4294967296 < k ∧ k < 4294967296) (hby : -600 ≤ by_ ∧ by_ ≤ 600) : Rel (dSX d j k by_) (mSX M j k by_) :=
  ⟨hR.n, hR.o, hR.one, hR.c, hR.r, hR.y, hR.l, fun t h1 h2 => EqU (fun _ => hR.x t h1 h2) (EqN.nx.q (by omega)), hR.e, hR.eb, hR.p, hR.pb⟩
def dSY (d : DS) (j k by_ : Int) : DS := (d.om, d.oe, d.nm, d.ne, d.cm, d.ce, d.rl, d.rlm, d.rle, d.rhm, d.rhe, updI d.rvm j (k * 2 ^ nt k), updI d.rve j (nx k (-3) by_), d.rc, d.cl, d.clm, d.cle, d.chm, d.che, d.cvm, d.cve, d.cc, d.e1, d.e2, d.em, d.ee, d.ec, d.p1, d.p2, d.pm, d.pe, d.pc)
def mSY (M : MS) (j k by_ : Int) : MS := (M.rw, M.cn, M.en, M.pr, M.ko, M.ka, M.kc, M.kq, M.kl, M.kh, M.krl, M.krh, M.kx, updI M.ky j k, M.xb, updI M.yb j (-3 + by_), M.ai, M.qi, M.li, M.hi, M.rli, M.rhi)
theorem DI_SY {d : DS} {M : MS} (hd : DI d) (hM : MI M) (hR : Rel d M) {j k by_ : Int} (hk : -4294967296 < k ∧ k < 4294967296) (hby : -600 ≤ by_ ∧ by_ ≤ 600) : DI (dSY d j k by_) :=
  ⟨hd.rc, hd.cc, hd.ec, hd.pc, hd.o, hd.n, hd.c, hd.rl, hd.rh, hd.rv.upd (pt_m hk) (by have := pt_x (b := by_) hk; omega), hd.cl, hd.ch, hd.cv, hd.e, hd.ev, hd.p, hd.pv⟩
theorem MI_SY {M : MS} (hM : MI M) {j k by_ : Int} (hk : -4294967296 < k ∧ k < 4294967296) (hby : -600 ≤ by_ ∧ by_ ≤ 600) : MI (mSY M j k by_) :=
  ⟨hM.rw, hM.cn, hM.en, hM.pr, hM.ko, hM.ka, hM.kc, hM.kq, hM.kl, hM.kh, hM.krl, hM.krh, hM.kx, hM.ky.upd hk, hM.xb, hM.yb.upd (by omega), hM.ai, hM.qi, hM.li, hM.hi, hM.rli, hM.rhi⟩
theorem Rel_SY {d : DS} {M : MS} (hd : DI d) (hM : MI M) (hR : Rel d M) {j k by_ : Int} (hk : -4294967296 < k ∧ k < 4294967296) (hby : -600 ≤ by_ ∧ by_ ≤ 600) : Rel (dSY d j k by_) (mSY M j k by_) :=
  ⟨hR.n, hR.o, hR.one, hR.c, hR.r, fun t h1 h2 => EqU (fun _ => hR.y t h1 h2) (EqN.nx.q (by omega)), hR.l, hR.x, hR.e, hR.eb, hR.p, hR.pb⟩
theorem DI_0 : DI d0 := by
  have z : ∀ n lo hi : Int, lo ≤ 0 → 0 ≤ hi → NB n lo hi (fun _ => 0) (fun _ => 0) := fun n lo hi h1 h2 i _ _ => ⟨⟨by show (-9007199254740992 : Int) < 0; decide, by show (0 : Int) < 9007199254740992; decide⟩, h1, h2⟩
  refine ⟨by decide, by decide, by decide, by decide, z _ _ _ (by decide) (by decide), ?_, z _ _ _ (by decide) (by decide), z _ _ _ (by decide) (by decide), z _ _ _ (by decide) (by decide), z _ _ _ (by decide) (by decide), z _ _ _ (by decide) (by decide), z _ _ _ (by decide) (by decide), z _ _ _ (by decide) (by decide), fun k h1 h2 => ?_, z _ _ _ (by decide) (by decide), fun k h1 h2 => ?_, z _ _ _ (by decide) (by decide)⟩
  · exact (z 1 (-60) 0 (by decide) (by decide)).upd (by decide) (by decide)
  · have h2 : k < 0 := h2
    omega
  · have h2 : k < 0 := h2
    omega
theorem MI_0 : MI M0 := by
  have z : ∀ n : Int, NK n (fun _ => 0) := fun n i _ _ => ⟨by show (-4294967296 : Int) < 0; decide, by show (0 : Int) < 4294967296; decide⟩
  have y : ∀ n : Int, NZ n (fun _ => 0) := fun n i _ _ => Or.inl rfl
  have x : ∀ n : Int, NQ n (fun _ => 0) := fun n i _ _ => ⟨by show (-650 : Int) ≤ 0; decide, by show (0 : Int) ≤ 650; decide⟩
  exact ⟨by decide, by decide, by decide, by decide, by decide, z _, z _, z _, z _, z _, z _, z _, z _, z _, x _, x _, y _, y _, y _, y _, y _, y _⟩
theorem Rel_0 : Rel d0 M0 := by
  refine ⟨⟨rfl, rfl, rfl, rfl⟩, EqN.z, EqN.nx.q (by decide), fun j h1 h2 => ?_, fun i h1 h2 => ?_, fun i h1 h2 => EqN.z, fun j h1 h2 => ?_, fun j h1 h2 => EqN.z, ⟨fun _ => 0, fun k h1 h2 => ?_, fun w => ?_⟩, fun i j h1 h2 h3 h4 z => absurd rfl z, ⟨fun _ => 0, fun k h1 h2 => ?_, fun w => ?_⟩, fun i j h1 h2 h3 h4 z => absurd rfl z⟩
  · have h2 : j < 0 := h2
    omega
  · have h2 : i < 0 := h2
    omega
  · have h2 : j < 0 := h2
    omega
  · have h2 : k < 0 := h2
    omega
  · exact (su_zero 12 (fun a _ _ => su_zero 16 (fun b _ _ => if_neg (fun z => z rfl)))).symm
  · have h2 : k < 0 := h2
    omega
  · exact (su_zero 16 (fun a _ _ => su_zero 16 (fun b _ _ => if_neg (fun z => z rfl)))).symm
