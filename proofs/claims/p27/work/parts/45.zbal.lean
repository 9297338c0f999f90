/-! ===== as many in as held ===== -/
def bt (n k : Nat) : Nat := n / 2 ^ k % 2
theorem bt_lt (n k : Nat) : bt n k < 2 := Nat.mod_lt _ (by decide)
theorem cN_31 (x : Int32) {lx hx : Int} (rx : Rg lx hx x) (h : 0 ≤ lx) : cN x < 2 ^ 31 := by
  have h1 := cN_i rx h
  have h2 := (Rg.top x).2
  omega
theorem cN_bv {x : Int32} {lx hx : Int} (rx : Rg lx hx x) (h : 0 ≤ lx) : x.toBitVec.toNat = cN x := by
  have h1 := cN_31 x rx h
  have e := pk_tn (n := cN x) (by omega)
  rw [← cN_nI rx h] at e
  exact e
theorem bt_z {z y x k : Int32} {lx hx lk hk : Int} (e1 : z = y &&& 1) (e2 : y = x >>> (k &&& 31)) (rx : Rg lx hx x) (rk : Rg lk hk k) (h : 0 ≤ lx ∧ 0 ≤ lk ∧ hk ≤ 31) : z = nI (bt (cN x) (cN k)) := by
  have ex := cN_nI rx h.1
  have ek := cN_nI rk h.2.1
  have hk2 : cN k < 32 := cN_lt rk (by omega)
  have hx2 := cN_31 x rx h.1
  have hs := s_31 (cN k) hk2
  rw [← ek] at hs
  have h3 := pk_shrN hx2 (k &&& 31) (cN k) hs
  rw [← ex] at h3
  have h4 : cN x / 2 ^ cN k ≤ cN x := Nat.div_le_self _ _
  rw [e1, e2, h3, pk_andN (m := 1) (by omega) 1 rfl, Nat.pow_one]
  rfl
theorem bt_0 {z y x k : Int32} {lx hx lk hk : Int} (e1 : z = y &&& 1) (e2 : y = x >>> (k &&& 31)) (rx : Rg lx hx x) (rk : Rg lk hk k) (h : 0 ≤ lx ∧ 0 ≤ lk ∧ hk ≤ 31) (c : z = 0) : bt (cN x) (cN k) = 0 := by
  have h1 := bt_z e1 e2 rx rk h
  have h2 := bt_lt (cN x) (cN k)
  rcases Nat.eq_zero_or_pos (bt (cN x) (cN k)) with q | q
  · exact q
  · exact absurd (h1.symm.trans c) (nI_ne0 q (by omega))
theorem bt_1 {z y x k : Int32} {lx hx lk hk : Int} (e1 : z = y &&& 1) (e2 : y = x >>> (k &&& 31)) (rx : Rg lx hx x) (rk : Rg lk hk k) (h : 0 ≤ lx ∧ 0 ≤ lk ∧ hk ≤ 31) (c : ¬ z = 0) : bt (cN x) (cN k) = 1 := by
  have h1 := bt_z e1 e2 rx rk h
  have h2 := bt_lt (cN x) (cN k)
  rcases Nat.eq_zero_or_pos (bt (cN x) (cN k)) with q | q
  · rw [q] at h1; exact absurd h1 c
  · omega
def BK (k : Int32) : Prop := Rg 0 65535 k ∧ pc (cN k % 256) = pc (cN k / 256)
def OKC (a b : Int32) : Prop := Rg 0 127 b ∧ bt (cN a / 256) (cN b / 8 % 8) = bt (cN a % 256) (cN b % 8)
theorem BK_0 : BK 0 := ⟨⟨by decide, by decide⟩, rfl⟩
theorem k_in {x y a : Int32} (e1 : y = a >>> ((8 : Int32) &&& 31)) (e2 : x = y &&& 255) (h : Rg 0 65535 a) : x = nI (cN a / 256) := by
  have ex := cN_nI h (by decide)
  have h2 : cN a < 65536 := cN_lt h (by decide)
  have h3 := pk_shrN (n := cN a) (by omega) ((8 : Int32) &&& 31) 8 rfl
  rw [← ex] at h3
  rw [e2, e1, h3, pk_andN (m := 255) (by omega) 8 rfl]
  congr 1
  omega
theorem k_held {x a : Int32} (e : x = a &&& 255) (h : Rg 0 65535 a) : x = nI (cN a % 256) := by
  have ex := cN_nI h (by decide)
  have h2 : cN a < 65536 := cN_lt h (by decide)
  have h3 := pk_andN (n := cN a) (m := 255) (by omega) 8 rfl
  rw [← ex] at h3
  exact e.trans h3
theorem c_in {x a : Int32} (e : x = nI (cN a / 256)) (h : Rg 0 65535 a) : cN x = cN a / 256 := cN_of e (by have : cN a < 65536 := cN_lt h (by decide); omega)
theorem c_held {x a : Int32} (e : x = nI (cN a % 256)) : cN x = cN a % 256 := cN_of e (by omega)
theorem rg_in {a : Int32} (h : Rg 0 65535 a) : Rg 0 255 (nI (cN a / 256)) := by
  have h2 : cN a < 65536 := cN_lt h (by decide)
  exact nI_r (by omega) (by omega)
theorem rg_held (a : Int32) : Rg 0 255 (nI (cN a % 256)) := nI_r (by omega) (by omega)
theorem nI_xor (a b : Nat) : nI a ^^^ nI b = nI (a ^^^ b) := by
  apply Int32.toBitVec_inj.1
  show BitVec.ofNat 32 a ^^^ BitVec.ofNat 32 b = BitVec.ofNat 32 (a ^^^ b)
  apply BitVec.eq_of_getLsbD_eq
  intro i hi
  simp [hi]
theorem bel_all : ∀ k, k < 9 → (1 : Int32) <<< (nI k &&& 31) - 1 = nI (2 ^ k - 1) := by decide +kernel
theorem bel_x {z x a : Int32} (e1 : x = (1 : Int32) <<< (a &&& 31)) (e2 : z = x - 1) (h : Rg 0 8 a) : z = nI (2 ^ cN a - 1) := by
  have e := cN_nI h (by decide)
  have h2 := bel_all (cN a) (cN_lt h (by decide))
  rw [← e] at h2
  rw [e2, e1]; exact h2
theorem bel_rg {a : Int32} (h : Rg 0 8 a) : Rg 0 255 (nI (2 ^ cN a - 1)) := by
  have h2 := pow_le (cN_lt (n := 9) h (by decide))
  exact nI_r (by omega) (by omega)
theorem msk {t a s k : Int32} {la ha : Int} (e : t = a &&& s) (es : s = nI (2 ^ cN k - 1)) (ra : Rg la ha a) (h0 : 0 ≤ la) (rk : Rg 0 8 k) : t = nI (cN a % 2 ^ cN k) := by
  have ex := cN_nI ra h0
  have h1 := cN_31 a ra h0
  have h2 := pow_le (cN_lt (n := 9) rk (by decide))
  have h3 := pk_andN (n := cN a) (m := s) (by omega) (cN k) (by rw [es, pk_tn (by omega)])
  rw [← ex] at h3
  exact e.trans h3
theorem pc_flip : ∀ n, n < 256 → ∀ k, k < 8 → pc (n ^^^ 2 ^ k) + 2 * bt n k = pc n + 1 := by decide +kernel
theorem pl_ex : ∀ n, n < 256 → ∀ f, f < pc n → ∃ k, k < 8 ∧ bt n k = 1 ∧ pc (n % 2 ^ k) = f := by decide +kernel
theorem pc_below : ∀ n, n < 256 → ∀ k, k < 8 → bt n k = 1 → pc (n % 2 ^ k) < pc n := by decide +kernel
theorem bo_x {x y b : Int32} (e1 : y = b >>> ((3 : Int32) &&& 31)) (e2 : x = y &&& 7) (h : Rg 0 127 b) : x = nI (cN b / 8 % 8) := by
  have ex := cN_nI h (by decide)
  have h2 : cN b < 128 := cN_lt h (by decide)
  have h3 := pk_shrN (n := cN b) (by omega) ((3 : Int32) &&& 31) 3 rfl
  rw [← ex] at h3
  rw [e2, e1, h3, pk_andN (m := 7) (by omega) 3 rfl]
theorem sh256 : ∀ k, k < 8 → (256 : Int32) <<< (nI k &&& 31) = nI (2 ^ 8 * 2 ^ k) := by decide +kernel
theorem kf_behind {x y z1 z2 b1 c1 a b : Int32} (e1 : b1 = nI (cN b / 8 % 8)) (e2 : z1 = (256 : Int32) <<< (b1 &&& 31)) (e3 : y = a ^^^ z1) (e4 : c1 = b &&& 7) (e5 : z2 = (1 : Int32) <<< (c1 &&& 31)) (e6 : x = y ^^^ z2) (hk : BK a) (ho : OKC a b) : BK x := by
  obtain ⟨ha, hp⟩ := hk
  obtain ⟨hb, hq⟩ := ho
  have ea := cN_nI ha (by decide)
  have eb := cN_nI hb (by decide)
  have a2 : cN a < 65536 := cN_lt ha (by decide)
  have b2 : cN b < 128 := cN_lt hb (by decide)
  have ec : c1 = nI (cN b % 8) := by
    have h3 := pk_andN (n := cN b) (m := 7) (by omega) 3 rfl
    rw [← eb] at h3
    exact e4.trans h3
  have q1 : z1 = nI (2 ^ 8 * 2 ^ (cN b / 8 % 8)) := by rw [e2, e1]; exact sh256 _ (by omega)
  have q2 : z2 = nI (2 ^ (cN b % 8)) := by rw [e5, ec]; exact sh_pow _ (by omega)
  have hu : cN b / 8 % 8 < 8 := by omega
  have hv : cN b % 8 < 8 := by omega
  generalize cN b / 8 % 8 = u at *
  generalize cN b % 8 = v at *
  have pu : 2 ^ u < 256 := Nat.lt_of_le_of_lt (Nat.pow_le_pow_right (by decide) (show u ≤ 7 by omega)) (by decide)
  have pv : 2 ^ v < 256 := Nat.lt_of_le_of_lt (Nat.pow_le_pow_right (by decide) (show v ≤ 7 by omega)) (by decide)
  have ex : x = nI (cN a ^^^ 2 ^ 8 * 2 ^ u ^^^ 2 ^ v) := by rw [e6, e3, q1, q2, ea, nI_xor, nI_xor, ← ea]
  generalize hn : cN a = n at *
  have m1 : (n ^^^ 2 ^ 8 * 2 ^ u ^^^ 2 ^ v) % 2 ^ 8 = n % 2 ^ 8 ^^^ 2 ^ v := by
    rw [Nat.xor_mod_two_pow, Nat.xor_mod_two_pow, Nat.mul_mod_right, Nat.xor_zero, Nat.mod_eq_of_lt (a := 2 ^ v) pv]
  have m2 : (n ^^^ 2 ^ 8 * 2 ^ u ^^^ 2 ^ v) / 2 ^ 8 = n / 2 ^ 8 ^^^ 2 ^ u := by
    rw [Nat.xor_div_two_pow, Nat.xor_div_two_pow, Nat.mul_div_cancel_left _ (by decide), Nat.div_eq_of_lt (a := 2 ^ v) pv, Nat.xor_zero]
  have hl : n ^^^ 2 ^ 8 * 2 ^ u ^^^ 2 ^ v < 2 ^ 16 := Nat.xor_lt_two_pow (Nat.xor_lt_two_pow (by omega) (by omega)) (by omega)
  have eN : cN x = n ^^^ 2 ^ 8 * 2 ^ u ^^^ 2 ^ v := cN_of ex (by omega)
  have f1 := pc_flip (n % 256) (by omega) v hv
  have f2 := pc_flip (n / 256) (by omega) u hu
  refine ⟨?_, ?_⟩
  · rw [ex]; exact nI_r (by omega) (by omega)
  · rw [eN]
    have g1 : (n ^^^ 2 ^ 8 * 2 ^ u ^^^ 2 ^ v) % 256 = n % 256 ^^^ 2 ^ v := m1
    have g2 : (n ^^^ 2 ^ 8 * 2 ^ u ^^^ 2 ^ v) / 256 = n / 256 ^^^ 2 ^ u := m2
    rw [g1, g2]
    omega
theorem bt_and {x i t : Int32} {li hi : Int} (e : x = i &&& t) (ri : Rg li hi i) (h0 : 0 ≤ li) {k : Nat} (h : bt (cN x) k = 1) : bt (cN i) k = 1 := by
  have rx : Rg 0 hi x := Rg.andl e ri ⟨h0, Int.le_refl _⟩
  have h1 := cN_bv ri h0
  have h2 := cN_bv rx (by decide)
  have h3 : x.toBitVec.toNat = i.toBitVec.toNat &&& t.toBitVec.toNat := by rw [e]; rfl
  rw [h1, h2] at h3
  have h4 : (cN x).testBit k = true := by rw [Nat.testBit_eq_decide_div_mod_eq]; exact decide_eq_true h
  rw [h3, Nat.testBit_and, Bool.and_eq_true] at h4
  have h5 := h4.1
  rw [Nat.testBit_eq_decide_div_mod_eq] at h5
  exact of_decide_eq_true h5
theorem pl_nb {y a b t s i : Int32} (c : ¬ y = b) (ey : y = nI (pc (cN t))) (et : t = a &&& s) (es : s = nI (2 ^ cN i - 1)) (ra : Rg 0 255 a) (ri : Rg 0 8 i) (rb : Rg 0 8 b) : ¬ (bt (cN a) (cN i) = 1 ∧ pc (cN a % 2 ^ cN i) = cN b) := by
  rintro ⟨-, h⟩
  have h1 := msk et es ra (by decide) ri
  have h2 : cN t = cN a % 2 ^ cN i := cN_of h1 (by have : cN a < 256 := cN_lt ra (by decide); have := Nat.mod_le (cN a) (2 ^ cN i); omega)
  apply c
  rw [ey, h2, h]
  exact (cN_nI rb (by decide)).symm
theorem pl_nx {x i : Int32} {n b : Nat} {hi : Int} (h : ∀ j, j < cN i → ¬ (bt n j = 1 ∧ pc (n % 2 ^ j) = b)) (h2 : ¬ (bt n (cN i) = 1 ∧ pc (n % 2 ^ cN i) = b)) (e : cN x = cN i + 1) : ∀ j, j < cN x → ¬ (bt n j = 1 ∧ pc (n % 2 ^ j) = b) := by
  intro j hj
  rw [e] at hj
  rcases Nat.lt_or_ge j (cN i) with q | q
  · exact h j q
  · have z : j = cN i := by omega
    rw [z]; exact h2
theorem pl_end {i a b : Int32} (h : ∀ j, j < cN i → ¬ (bt (cN a) j = 1 ∧ pc (cN a % 2 ^ j) = cN b)) (c : (8 : Int32) ≤ i) (ri : Rg 0 8 i) (ra : Rg 0 255 a) (hl : cN b < pc (cN a)) : False := by
  obtain ⟨k, h1, h2, h3⟩ := pl_ex (cN a) (cN_lt ra (by decide)) (cN b) hl
  have h4 := le_cN c (Rg.c (c := 8) (k := 8) rfl) ri (by decide)
  have h5 : cN 8 = 8 := rfl
  exact h k (by omega) ⟨h2, h3⟩
theorem act_all : ∀ d, d < 2 → ∀ b, b < 8 → ∀ h, h < 8 → ((nI d <<< ((6 : Int32) &&& 31)) ||| (nI b <<< ((3 : Int32) &&& 31))) ||| nI h = nI (64 * d + 8 * b + h) := by decide +kernel
theorem act_x {x y z w b h : Int32} {d : Nat} {dd : Int32} (hd : d < 2) (ed : dd = nI d) (e1 : z = dd <<< ((6 : Int32) &&& 31)) (e2 : w = b <<< ((3 : Int32) &&& 31)) (e3 : y = z ||| w) (e4 : x = y ||| h) (rb : Rg 0 7 b) (rh : Rg 0 7 h) : x = nI (64 * d + 8 * cN b + cN h) := by
  have h1 := act_all d hd (cN b) (cN_lt rb (by decide)) (cN h) (cN_lt rh (by decide))
  rw [← cN_nI rb (by decide), ← cN_nI rh (by decide), ← ed] at h1
  rw [e4, e3, e1, e2]; exact h1
theorem act_rg {b h : Int32} {d : Nat} (hd : d < 2) (rb : Rg 0 7 b) (rh : Rg 0 7 h) : Rg 0 127 (nI (64 * d + 8 * cN b + cN h)) := by
  have h1 : cN b < 8 := cN_lt rb (by decide)
  have h2 : cN h < 8 := cN_lt rh (by decide)
  exact nI_r (by omega) (by omega)
theorem okc_of {x a b h : Int32} {d : Nat} (hd : d < 2) (e : x = nI (64 * d + 8 * cN b + cN h)) (rb : Rg 0 7 b) (rh : Rg 0 7 h) (hq : bt (cN a / 256) (cN b) = bt (cN a % 256) (cN h)) : OKC a x := by
  have h1 : cN b < 8 := cN_lt rb (by decide)
  have h2 : cN h < 8 := cN_lt rh (by decide)
  have h3 : cN x = 64 * d + 8 * cN b + cN h := cN_of e (by omega)
  refine ⟨by rw [e]; exact act_rg hd rb rh, ?_⟩
  rw [h3, show (64 * d + 8 * cN b + cN h) / 8 % 8 = cN b by omega, show (64 * d + 8 * cN b + cN h) % 8 = cN h by omega]
  exact hq
theorem bkr_upd {g : Nat → Int32} {k : Nat} {x : Int32} {n : Nat} (h : ∀ j, j < n → BK (g j)) (hx : BK x) : ∀ j, j < n → BK (upd g k x j) := by
  intro j hj
  unfold upd
  by_cases q : j = k
  · rw [if_pos q]; exact hx
  · rw [if_neg q]; exact h j hj
/-! ===== where a button is, or can come ===== -/
def SPK (a : Int32) (j : Nat) (s : Int32) : Prop := Rg 0 255 s ∧ ∀ k, k < 8 → bt (cN s) k = 1 → bt (cN a % 256) k = bt (cN a / 256) j
def lob (r : Nat) : Int32 := nI r &&& -(nI r)
def rsm (n m : Nat) : Nat := n / 2 ^ m * 2 ^ m
theorem sv_in : ∀ n, n < 256 → ∀ m, m < 9 → (∃ m2, m2 < 9 ∧ nI (rsm n m) ^^^ lob (rsm n m) = nI (rsm n m2) ∧ ((lob (rsm n m) <<< ((1 : Int32) &&& 31) - 1).toBitVec.toNat % 256 = 2 ^ m2 - 1)) ∧ cN (lob (rsm n m)) < 256 ∧ lob (rsm n m) = nI (cN (lob (rsm n m))) ∧ ∀ k, k < 8 → bt (cN (lob (rsm n m))) k = 1 → bt n k = 1 := by decide +kernel
theorem sv_do : ∀ n, n < 256 → ∀ m, m < 9 → ∀ k, k < 8 → bt (if lob (rsm n m) = 0 then 255 else cN (lob (rsm n m)) - 1) k = 1 → bt (2 ^ m - 1) k = 0 → bt n k = 0 := by decide +kernel
def SVI (a rest above : Int32) : Prop := ∃ m, m < 9 ∧ rest = nI (rsm (cN a % 256) m) ∧ above.toBitVec.toNat % 256 = 2 ^ m - 1
theorem SVI_0 {a x : Int32} (e : x = nI (cN a % 256)) : SVI a x 0 := ⟨0, by decide, by rw [e]; unfold rsm; rw [Nat.pow_zero, Nat.div_one, Nat.mul_one], rfl⟩
theorem sv_A {a rest above ng nx b : Int32} (hI : SVI a rest above) (e1 : ng = -rest) (e2 : nx = rest &&& ng) (hb : bt (cN a / 256) (cN b) = 1) : SPK a (cN b) nx := by
  obtain ⟨m, hm, h1, h2⟩ := hI
  have e : nx = lob (rsm (cN a % 256) m) := by rw [e2, e1, h1]; rfl
  obtain ⟨-, h3, h4, h5⟩ := sv_in (cN a % 256) (by omega) m hm
  rw [← e] at h3 h4 h5
  refine ⟨by rw [h4]; exact nI_r (by omega) (by omega), fun k hk q => ?_⟩
  rw [h5 k hk q, hb]
theorem sv_B {a rest above ng nx r2 y ab2 : Int32} (hI : SVI a rest above) (e1 : ng = -rest) (e2 : nx = rest &&& ng) (e3 : r2 = rest ^^^ nx) (e4 : y = nx <<< ((1 : Int32) &&& 31)) (e5 : ab2 = y - 1) : SVI a r2 ab2 := by
  obtain ⟨m, hm, h1, h2⟩ := hI
  have e : nx = lob (rsm (cN a % 256) m) := by rw [e2, e1, h1]; rfl
  obtain ⟨⟨m2, g1, g2, g3⟩, -⟩ := sv_in (cN a % 256) (by omega) m hm
  rw [← e] at g2 g3
  exact ⟨m2, g1, by rw [e3, h1]; exact g2, by rw [e5, e4]; exact g3⟩
def ahF (nx : Int32) : Nat := if nx = 0 then 255 else cN nx - 1
theorem sv_nx {a rest above ng nx : Int32} (hI : SVI a rest above) (e1 : ng = -rest) (e2 : nx = rest &&& ng) : Rg 0 255 nx := by
  obtain ⟨m, hm, h1, h2⟩ := hI
  have e : nx = lob (rsm (cN a % 256) m) := by rw [e2, e1, h1]; rfl
  obtain ⟨-, h3, h4, h5⟩ := sv_in (cN a % 256) (by omega) m hm
  rw [← e] at h3 h4 h5
  rw [h4]; exact nI_r (by omega) (by omega)
theorem ah_0 {nx : Int32} (c : nx = 0) : (255 : Int32) = nI (ahF nx) := by unfold ahF; rw [if_pos c]; rfl
theorem ah_1 {nx x : Int32} (c : ¬ nx = 0) (r : Rg 0 255 nx) (e : x = nx - 1) : x = nI (ahF nx) := by
  unfold ahF
  rw [if_neg c, e]
  have h1 := cN_nI r (by decide)
  have h2 : 1 ≤ cN nx := by
    rcases Nat.eq_zero_or_pos (cN nx) with q | q
    · rw [q] at h1; exact absurd h1 c
    · exact q
  have h3 := pk_sub (a := cN nx) (b := 1) h2
  rw [← h1] at h3
  exact h3
theorem ah_rg {nx x : Int32} (e : x = nI (ahF nx)) (r : Rg 0 255 nx) : Rg 0 255 x := by
  rw [e]
  have h2 : cN nx < 256 := cN_lt r (by decide)
  unfold ahF
  split
  · exact nI_r (by decide) (by decide)
  · exact nI_r (by omega) (by omega)
theorem sv_C {a rest above ng nx ah t1 s1 s2 f b : Int32} (hI : SVI a rest above) (e1 : ng = -rest) (e2 : nx = rest &&& ng) (e3 : ah = nI (ahF nx)) (e4 : t1 = above ^^^ (-1)) (e5 : s1 = ah &&& t1) (e6 : s2 = s1 &&& f) (hb : bt (cN a / 256) (cN b) = 0) : SPK a (cN b) s2 := by
  have rn := sv_nx hI e1 e2
  have ra := ah_rg e3 rn
  obtain ⟨m, hm, h1, h2⟩ := hI
  have e : nx = lob (rsm (cN a % 256) m) := by rw [e2, e1, h1]; rfl
  have r1 : Rg 0 255 s1 := Rg.andl e5 ra ⟨by decide, by decide⟩
  have r2 : Rg 0 255 s2 := Rg.andl e6 r1 ⟨by decide, by decide⟩
  refine ⟨r2, fun k hk q => ?_⟩
  have q1 := bt_and e6 r1 (by decide) q
  have q2 := bt_and e5 ra (by decide) q1
  have h3 : s1.toBitVec.toNat = ah.toBitVec.toNat &&& t1.toBitVec.toNat := by rw [e5]; rfl
  have h4 : (cN s1).testBit k = true := by rw [Nat.testBit_eq_decide_div_mod_eq]; exact decide_eq_true q1
  rw [← cN_bv r1 (by decide), h3, Nat.testBit_and, Bool.and_eq_true] at h4
  have h5 : t1.toBitVec.getLsbD k = true := h4.2
  have h6 : t1.toBitVec = above.toBitVec ^^^ (-1 : Int32).toBitVec := by rw [e4]; rfl
  have h7 : (-1 : Int32).toBitVec = BitVec.allOnes 32 := by decide
  rw [h6, h7, BitVec.getLsbD_xor, BitVec.getLsbD_allOnes, decide_eq_true (show k < 32 by omega)] at h5
  have h8 : above.toBitVec.toNat.testBit k = false := by
    have h9 : above.toBitVec.getLsbD k = false := by revert h5; cases above.toBitVec.getLsbD k <;> decide
    exact h9
  have h10 : bt (2 ^ m - 1) k = 0 := by
    have h11 : (above.toBitVec.toNat % 2 ^ 8).testBit k = false := by
      rw [Nat.testBit_mod_two_pow, h8, Bool.and_false]
    rw [show above.toBitVec.toNat % 2 ^ 8 = 2 ^ m - 1 from h2, Nat.testBit_eq_decide_div_mod_eq] at h11
    have h12 : ¬ (2 ^ m - 1) / 2 ^ k % 2 = 1 := of_decide_eq_false h11
    have := bt_lt (2 ^ m - 1) k
    unfold bt at *
    omega
  have e9 : cN ah = ahF nx := by
    have h2 : cN nx < 256 := cN_lt rn (by decide)
    refine cN_of e3 ?_
    unfold ahF
    split <;> omega
  rw [e9] at q2
  unfold ahF at q2
  rw [e] at q2
  rw [sv_do (cN a % 256) (by omega) m hm k hk q2 h10, hb]
theorem sp_upd {a : Int32} {g : Nat → Int32} {b x nx : Int32} (h : ∀ j, j < cN b → SPK a j (g j)) (hx : SPK a (cN b) x) (e : cN nx = cN b + 1) : ∀ j, j < cN nx → SPK a j (upd g (cN b) x j) := by
  intro j hj
  unfold upd
  by_cases q : j = cN b
  · rw [if_pos q, q]; exact hx
  · rw [if_neg q]; exact h j (by omega)
theorem sp_updS {a : Int32} {g : Nat → Int32} {b x : Int32} (h : ∀ j, j < cN b → SPK a j (g j)) (hx : SPK a (cN b) x) : ∀ j, j < cN b + 1 → SPK a j (upd g (cN b) x j) := by
  intro j hj
  unfold upd
  by_cases q : j = cN b
  · rw [if_pos q, q]; exact hx
  · rw [if_neg q]; exact h j (by omega)
theorem ok_upd {a : Int32} {g : Nat → Int32} {n x : Int32} (h : ∀ j, j < cN n → OKC a (g j)) (hx : OKC a x) : ∀ j, j < cN n + 1 → OKC a (upd g (cN n) x j) := by
  intro j hj
  unfold upd
  by_cases q : j = cN n
  · rw [if_pos q]; exact hx
  · rw [if_neg q]; exact h j (by omega)
