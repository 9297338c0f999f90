/-! ===== the reference: small sets ===== -/
theorem i64 (a : Int32) : a.toInt64.toInt = a.toInt := Int32.toInt_toInt64 a
theorem cmp_t {x y : Int64} : (lg_cmp x y < 0 ↔ x.toInt < y.toInt) ∧ (0 < lg_cmp x y ↔ y.toInt < x.toInt) := by
  unfold lg_cmp
  have e1 : ∀ a b : Int64, a < b ↔ a.toInt < b.toInt := fun a b => Int64.lt_iff_toInt_lt
  by_cases h1 : x > y
  · rw [if_pos h1]
    have h2 := (e1 _ _).mp h1
    exact ⟨⟨fun h => absurd h (by decide), fun h => by omega⟩, ⟨fun _ => h2, fun _ => by decide⟩⟩
  · rw [if_neg h1]
    have h2 : ¬ y.toInt < x.toInt := fun h => h1 ((e1 _ _).mpr h)
    by_cases h3 : x = y
    · rw [if_pos h3]
      subst h3
      exact ⟨⟨fun h => absurd h (by decide), fun h => by omega⟩, ⟨fun h => absurd h (by decide), fun h => by omega⟩⟩
    · rw [if_neg h3]
      have h4 : x.toInt ≠ y.toInt := fun h => h3 (Int64.toInt_inj.mp h)
      exact ⟨⟨fun _ => by omega, fun _ => by decide⟩, ⟨fun h => absurd h (by decide), fun h => absurd h h2⟩⟩
theorem lc_ge {x y : Int64} {z : Int32} (e : z = lg_cmp x y) (c : ¬ z < 0) : y.toInt ≤ x.toInt := by
  rw [e] at c
  have := mt cmp_t.1.mpr c
  omega
theorem lc_le {x y : Int64} {z : Int32} (e : z = lg_cmp x y) (c : ¬ 0 < z) : x.toInt ≤ y.toInt := by
  rw [e] at c
  have := mt cmp_t.2.mpr c
  omega
theorem lc_lt {x y : Int64} {z : Int32} (e : z = lg_cmp x y) (c : z < 0) : x.toInt < y.toInt := by rw [e] at c; exact cmp_t.1.mp c
theorem lc_gt {x y : Int64} {z : Int32} (e : z = lg_cmp x y) (c : 0 < z) : y.toInt < x.toInt := by rw [e] at c; exact cmp_t.2.mp c
theorem in_rg {z y2 y3 : Int64} {a : Int32} {lo hi : Int} (e : z = a.toInt64) (h : y2.toInt ≤ z.toInt ∧ z.toInt ≤ y3.toInt) (h2 : lo ≤ y2.toInt) (h3 : y3.toInt ≤ hi) : Rg lo hi a := by
  rw [e, i64] at h
  exact ⟨by omega, by omega⟩
theorem l_lo {y : Int64} {a : Int32} {lo hi : Int} (e : y = a.toInt64) (r : Rg lo hi a) : lo ≤ y.toInt := by rw [e, i64]; exact r.1
theorem l_hi {y : Int64} {a : Int32} {lo hi : Int} (e : y = a.toInt64) (r : Rg lo hi a) : y.toInt ≤ hi := by rw [e, i64]; exact r.2
theorem isof_1 {z : Int32} {n k : Nat} (e : z = nI (bt n k)) (c : z = 1) : (1 : Int32) = nI (bt n k) := by rw [← e, c]
theorem isof_0 {z : Int32} {n k : Nat} (e : z = nI (bt n k)) (c : ¬ z = 1) : (0 : Int32) = nI (bt n k) := by
  have h := bt_lt n k
  rcases Nat.eq_zero_or_pos (bt n k) with q | q
  · rw [q]; rfl
  · have q1 : bt n k = 1 := by omega
    rw [q1] at e; exact absurd e c
theorem bt_rg (n k : Nat) : Rg 0 1 (nI (bt n k)) := by have := bt_lt n k; exact nI_r (by omega) (by omega)
theorem bz_0 {z : Int32} {n k : Nat} (e : z = nI (bt n k)) (c : z = 0) : bt n k = 0 := by
  rcases Nat.eq_zero_or_pos (bt n k) with q | q
  · exact q
  · exact absurd (e.symm.trans c) (nI_ne0 q (by have := bt_lt n k; omega))
theorem bz_1 {z : Int32} {n k : Nat} (e : z = nI (bt n k)) (c : ¬ z = 0) : bt n k = 1 := by
  have h := bt_lt n k
  rcases Nat.eq_zero_or_pos (bt n k) with q | q
  · rw [q] at e; exact absurd e c
  · omega
theorem bs_all : ∀ s, s < 256 → 0 < s → nI s &&& (nI s - 1) = nI (cN (nI s &&& (nI s - 1))) ∧ cN (nI s &&& (nI s - 1)) < s ∧ pc (cN (nI s &&& (nI s - 1))) + 1 = pc s := by decide +kernel
theorem bs_x {s x y : Int32} (r : Rg 0 255 s) (c : ¬ s = 0) (e1 : x = s - 1) (e2 : y = s &&& x) : Rg 0 255 y ∧ cN y < cN s ∧ pc (cN y) + 1 = pc (cN s) := by
  have e := cN_nI r (by decide)
  have hl : cN s < 256 := cN_lt r (by decide)
  have h0 : 0 < cN s := by
    rcases Nat.eq_zero_or_pos (cN s) with q | q
    · rw [q] at e; exact absurd e c
    · exact q
  obtain ⟨a1, a2, a3⟩ := bs_all (cN s) hl h0
  have ey : y = nI (cN s) &&& (nI (cN s) - 1) := by rw [← e, e2, e1]
  rw [← ey] at a1 a2 a3
  exact ⟨by rw [a1]; exact nI_r (by omega) (by omega), a2, a3⟩
theorem bits_end {n s : Int32} {m : Nat} (h : cN n + pc (cN s) = m) (c : s = 0) (r : Rg 0 8 n) : n = nI m := by
  have h2 : pc (cN s) = 0 := by rw [c]; rfl
  rw [h2, Nat.add_zero] at h
  rw [← h]; exact cN_nI r (by decide)
theorem sh_8 {x a : Int32} (e : x = a >>> ((8 : Int32) &&& 31)) (h : Rg 0 65535 a) : x = nI (cN a / 256) := by
  have ex := cN_nI h (by decide)
  have h2 : cN a < 65536 := cN_lt h (by decide)
  have h3 := pk_shrN (n := cN a) (by omega) ((8 : Int32) &&& 31) 8 rfl
  rw [← ex] at h3
  exact e.trans h3
/-- the bit of a set that has so many below it -/
def nthF (n f : Nat) : Nat := ((List.range 8).find? (fun k => bt n k == 1 && pc (n % 2 ^ k) == f)).getD 0
theorem nth_u : ∀ n, n < 256 → ∀ k, k < 8 → bt n k = 1 → nthF n (pc (n % 2 ^ k)) = k := by decide +kernel
theorem pc_step : ∀ n, n < 256 → ∀ k, k < 8 → pc (n % 2 ^ (k + 1)) = pc (n % 2 ^ k) + bt n k := by decide +kernel
theorem pc_8 : ∀ n, n < 256 → pc (n % 2 ^ 8) = pc n := by decide +kernel
theorem pc_m0 (n : Nat) : pc (n % 2 ^ 0) = 0 := by rw [Nat.pow_zero, Nat.mod_one]; rfl
theorem pc_pos : ∀ n, n < 256 → ∀ k, k < 8 → bt n k = 1 → 0 < pc n := by decide +kernel
theorem nt_lt {a : Int32} {l k : Int32} {f : Nat} (h : cN l + pc (cN a % 2 ^ cN k) = f) (ra : Rg 0 255 a) (rk : Rg 0 8 k) (hl : f < pc (cN a)) : Rg 0 7 k := by
  have h1 := cN_i rk (by decide)
  have h2 : cN k ≤ 8 := cN_le rk (by decide)
  have h3 : cN k ≠ 8 := by
    intro q
    rw [q, pc_8 _ (cN_lt ra (by decide))] at h
    omega
  exact ⟨rk.1, by omega⟩
theorem nt_step {a l k l2 k2 d : Int32} {f : Nat} (h : cN l + pc (cN a % 2 ^ cN k) = f) (ra : Rg 0 255 a) (rk : Rg 0 7 k) (rl : Rg 0 8 l) (ed : d = nI (bt (cN a) (cN k))) (el : l2 = l - d) (ek : cN k2 = cN k + 1) (hc : 0 < cN l ∨ bt (cN a) (cN k) = 0) : cN l2 + pc (cN a % 2 ^ cN k2) = f ∧ Rg 0 8 l2 := by
  have hb := bt_lt (cN a) (cN k)
  have hs := pc_step (cN a) (cN_lt ra (by decide)) (cN k) (cN_lt rk (by decide))
  have h8 : cN l ≤ 8 := cN_le rl (by decide)
  have e1 : l2 = nI (cN l - bt (cN a) (cN k)) := by
    rw [el, ed, cN_nI rl (by decide), pk_sub (by omega), ← cN_nI rl (by decide)]
  have e2 : cN l2 = cN l - bt (cN a) (cN k) := cN_of e1 (by omega)
  refine ⟨by rw [e2, ek, hs]; omega, by rw [e1]; exact nI_r (by omega) (by omega)⟩
theorem nt_end {a l k : Int32} {f : Nat} (h : cN l + pc (cN a % 2 ^ cN k) = f) (ra : Rg 0 255 a) (rk : Rg 0 7 k) (rl : Rg 0 8 l) (c : ¬ 0 < l) (hb : bt (cN a) (cN k) = 1) : k = nI (nthF (cN a) f) := by
  have h1 : cN l = 0 := by
    have h2 := cN_i rl (by decide)
    rw [i_lt] at c
    have e0 : Int32.toInt 0 = 0 := rfl
    omega
  rw [h1, Nat.zero_add] at h
  rw [← h, nth_u (cN a) (cN_lt ra (by decide)) (cN k) (cN_lt rk (by decide)) hb]
  exact cN_nI rk (by decide)
theorem pos_l {l : Int32} {hi : Int} (r : Rg 0 hi l) (c : 0 < l) : 0 < cN l := by
  have h2 := cN_i r (by decide)
  rw [i_lt] at c
  have e0 : Int32.toInt 0 = 0 := rfl
  omega
/-- the hole of a button that is in -/
def plF (c b : Nat) : Nat := nthF (c / 256) (pc (c % 256 % 2 ^ b))
theorem nth_s : ∀ n, n < 256 → ∀ f, f < pc n → nthF n f < 8 ∧ bt n (nthF n f) = 1 := by decide +kernel
theorem pl_s {a b : Int32} (hk : BK a) (rb : Rg 0 7 b) (hb : bt (cN a % 256) (cN b) = 1) : plF (cN a) (cN b) < 8 ∧ bt (cN a / 256) (plF (cN a) (cN b)) = 1 := by
  have h2 : cN a < 65536 := cN_lt hk.1 (by decide)
  refine nth_s (cN a / 256) (by omega) _ ?_
  rw [← hk.2]
  exact pc_below _ (by omega) _ (cN_lt rb (by decide)) hb
theorem pl_hlt {a b x y t s u : Int32} {n : Nat} (hk : BK a) (rb : Rg 0 7 b) (hb : bt (cN a % 256) (cN b) = 1) (ex : x = nI (cN a % 256)) (es : s = (1 : Int32) <<< (b &&& 31)) (et : t = s - 1) (eu : u = x &&& t) (ey : y = nI (pc (cN u))) : y = nI (pc (cN a % 256 % 2 ^ cN b)) ∧ pc (cN a % 256 % 2 ^ cN b) < pc (cN a / 256) := by
  have h2 : cN a < 65536 := cN_lt hk.1 (by decide)
  have rx : Rg 0 255 x := by rw [ex]; exact rg_held a
  have e1 := bel_x es et ⟨rb.1, Int.le_trans rb.2 (by decide)⟩
  have e2 := msk eu e1 rx (by decide) ⟨rb.1, Int.le_trans rb.2 (by decide)⟩
  have e3 : cN u = cN x % 2 ^ cN b := cN_of e2 (by have := Nat.mod_le (cN x) (2 ^ cN b); have := cN_31 x rx (by decide); omega)
  have e4 : cN x = cN a % 256 := c_held ex
  refine ⟨by rw [ey, e3, e4], ?_⟩
  rw [← hk.2]
  exact pc_below _ (by omega) _ (cN_lt rb (by decide)) hb
theorem or_all : ∀ n, n < 256 → ∀ k, k < 8 → bt n k = 0 → n ||| 2 ^ k = n + 2 ^ k ∧ pc (n + 2 ^ k) = pc n + 1 ∧ n + 2 ^ k < 256 := by decide +kernel
theorem jn_x {a b h x y z w : Int32} (hk : BK a) (rb : Rg 0 7 b) (rh : Rg 0 7 h) (hb : bt (cN a % 256) (cN b) = 0) (hh : bt (cN a / 256) (cN h) = 0) (e1 : z = (1 : Int32) <<< (b &&& 31)) (e2 : y = a ||| z) (e3 : w = (256 : Int32) <<< (h &&& 31)) (e4 : x = y ||| w) : x = nI (cN a + 2 ^ cN b + 256 * 2 ^ cN h) ∧ BK x ∧ cN x = cN a + 2 ^ cN b + 256 * 2 ^ cN h := by
  have ea := cN_nI hk.1 (by decide)
  have a2 : cN a < 65536 := cN_lt hk.1 (by decide)
  have q1 : z = nI (2 ^ cN b) := sh_x e1 rb (by decide)
  have q2 : w = nI (2 ^ 8 * 2 ^ cN h) := by
    have := sh256 (cN h) (cN_lt rh (by decide))
    rw [← cN_nI rh (by decide)] at this
    exact e3.trans this
  have hp := hk.2
  have hu : cN b < 8 := cN_lt rb (by decide)
  have hv : cN h < 8 := cN_lt rh (by decide)
  generalize cN b = u at *
  generalize cN h = v at *
  have ex : x = nI (cN a ||| 2 ^ u ||| 2 ^ 8 * 2 ^ v) := by rw [e4, e2, q1, q2, ea, nI_or, nI_or, ← ea]
  generalize hn : cN a = n at *
  have pu : 2 ^ u < 256 := Nat.lt_of_le_of_lt (Nat.pow_le_pow_right (by decide) (show u ≤ 7 by omega)) (by decide)
  have m1 : (n ||| 2 ^ u ||| 2 ^ 8 * 2 ^ v) % 2 ^ 8 = n % 2 ^ 8 ||| 2 ^ u := by
    rw [Nat.or_mod_two_pow, Nat.or_mod_two_pow, Nat.mul_mod_right, Nat.or_zero, Nat.mod_eq_of_lt (a := 2 ^ u) pu]
  have m2 : (n ||| 2 ^ u ||| 2 ^ 8 * 2 ^ v) / 2 ^ 8 = n / 2 ^ 8 ||| 2 ^ v := by
    rw [Nat.or_div_two_pow, Nat.or_div_two_pow, Nat.mul_div_cancel_left _ (by decide), Nat.div_eq_of_lt (a := 2 ^ u) pu, Nat.or_zero]
  obtain ⟨f1, f2, f3⟩ := or_all (n % 256) (by omega) u hu hb
  obtain ⟨g1, g2, g3⟩ := or_all (n / 256) (by omega) v hv hh
  have k1 : (n ||| 2 ^ u ||| 2 ^ 8 * 2 ^ v) % 256 = n % 256 + 2 ^ u := by rw [← f1]; exact m1
  have k2 : (n ||| 2 ^ u ||| 2 ^ 8 * 2 ^ v) / 256 = n / 256 + 2 ^ v := by rw [← g1]; exact m2
  have k3 : n ||| 2 ^ u ||| 2 ^ 8 * 2 ^ v = n + 2 ^ u + 256 * 2 ^ v := by omega
  have eN : cN x = n + 2 ^ u + 256 * 2 ^ v := cN_of (ex.trans (by rw [k3])) (by omega)
  refine ⟨ex.trans (by rw [k3]), ⟨?_, ?_⟩, eN⟩
  · rw [ex, k3]; exact nI_r (by omega) (by omega)
  · rw [eN, ← k3, k1, k2, f2, g2]; omega
theorem cl_all : ∀ n, n < 256 → ∀ k, k < 8 → bt n k = 1 → n &&& (255 - 2 ^ k) = n - 2 ^ k ∧ pc (n - 2 ^ k) + 1 = pc n ∧ 2 ^ k ≤ n := by decide +kernel
theorem mk_lo : ∀ k, k < 8 → ((1 : Int32) <<< (nI k &&& 31) ^^^ (-1)).toBitVec.toNat = 2 ^ 32 - 1 - 2 ^ k := by decide +kernel
theorem mk_hi : ∀ k, k < 8 → ((256 : Int32) <<< (nI k &&& 31) ^^^ (-1)).toBitVec.toNat = 2 ^ 32 - 1 - 256 * 2 ^ k := by decide +kernel
theorem mk_l2 : ∀ k, k < 8 → (2 ^ 32 - 1 - 2 ^ k) % 2 ^ 8 = 255 - 2 ^ k ∧ (2 ^ 32 - 1 - 2 ^ k) / 2 ^ 8 = 2 ^ 24 - 1 := by decide +kernel
theorem mk_h2 : ∀ k, k < 8 → (2 ^ 32 - 1 - 256 * 2 ^ k) % 2 ^ 8 = 2 ^ 8 - 1 ∧ (2 ^ 32 - 1 - 256 * 2 ^ k) / 2 ^ 8 % 2 ^ 8 = 255 - 2 ^ k := by decide +kernel
theorem and_ones {n k : Nat} (h : n < 2 ^ k) : n &&& (2 ^ k - 1) = n := by rw [Nat.and_two_pow_sub_one_eq_mod, Nat.mod_eq_of_lt h]
theorem pt_x {a b x y z w p v u : Int32} (hk : BK a) (rb : Rg 0 7 b) (hb : bt (cN a % 256) (cN b) = 1) (e1 : z = (1 : Int32) <<< (b &&& 31)) (e2 : w = z ^^^ (-1)) (e3 : y = a &&& w) (ep : p = nI (plF (cN a) (cN b))) (e4 : u = (256 : Int32) <<< (p &&& 31)) (e5 : v = u ^^^ (-1)) (e6 : x = y &&& v) : x = nI (cN a - 2 ^ cN b - 256 * 2 ^ plF (cN a) (cN b)) ∧ BK x := by
  obtain ⟨hp8, hpb⟩ := pl_s hk rb hb
  have a2 : cN a < 65536 := cN_lt hk.1 (by decide)
  have hu : cN b < 8 := cN_lt rb (by decide)
  have w1 : w.toBitVec.toNat = 2 ^ 32 - 1 - 2 ^ cN b := by
    have := mk_lo (cN b) hu
    rw [← cN_nI rb (by decide)] at this
    rw [e2, e1]; exact this
  have v1 : v.toBitVec.toNat = 2 ^ 32 - 1 - 256 * 2 ^ plF (cN a) (cN b) := by
    have := mk_hi (plF (cN a) (cN b)) hp8
    rw [e5, e4, ep]; exact this
  have ex : x.toBitVec.toNat = a.toBitVec.toNat &&& w.toBitVec.toNat &&& v.toBitVec.toNat := by rw [e6, e3]; rfl
  rw [w1, v1, cN_bv hk.1 (by decide)] at ex
  have hp := hk.2
  generalize plF (cN a) (cN b) = q at *
  generalize cN b = u at *
  generalize cN a = n at *
  obtain ⟨l1, l2⟩ := mk_l2 u hu
  obtain ⟨h1, h2⟩ := mk_h2 q hp8
  obtain ⟨f1, f2, f3⟩ := cl_all (n % 256) (by omega) u hu hb
  obtain ⟨g1, g2, g3⟩ := cl_all (n / 256) (by omega) q hp8 hpb
  have m1 : (n &&& (2 ^ 32 - 1 - 2 ^ u) &&& (2 ^ 32 - 1 - 256 * 2 ^ q)) % 2 ^ 8 = n % 2 ^ 8 &&& (255 - 2 ^ u) := by
    rw [Nat.and_mod_two_pow, Nat.and_mod_two_pow, l1, h1]
    exact and_ones (Nat.lt_of_le_of_lt Nat.and_le_left (Nat.mod_lt _ (by decide)))
  have m2 : (n &&& (2 ^ 32 - 1 - 2 ^ u) &&& (2 ^ 32 - 1 - 256 * 2 ^ q)) / 2 ^ 8 = n / 2 ^ 8 &&& (255 - 2 ^ q) := by
    rw [Nat.and_div_two_pow, Nat.and_div_two_pow, l2, and_ones (show n / 2 ^ 8 < 2 ^ 24 by omega)]
    have r1 : n / 2 ^ 8 < 2 ^ 8 := by omega
    have r2 : n / 2 ^ 8 &&& (2 ^ 32 - 1 - 256 * 2 ^ q) / 2 ^ 8 < 2 ^ 8 := Nat.lt_of_le_of_lt Nat.and_le_left r1
    rw [← Nat.mod_eq_of_lt r2, Nat.and_mod_two_pow, h2, Nat.mod_eq_of_lt r1]
  have k1 : (n &&& (2 ^ 32 - 1 - 2 ^ u) &&& (2 ^ 32 - 1 - 256 * 2 ^ q)) % 256 = n % 256 - 2 ^ u := by rw [← f1]; exact m1
  have k2 : (n &&& (2 ^ 32 - 1 - 2 ^ u) &&& (2 ^ 32 - 1 - 256 * 2 ^ q)) / 256 = n / 256 - 2 ^ q := by rw [← g1]; exact m2
  have k3 : n &&& (2 ^ 32 - 1 - 2 ^ u) &&& (2 ^ 32 - 1 - 256 * 2 ^ q) = n - 2 ^ u - 256 * 2 ^ q := by omega
  rw [k3] at ex
  have exx : x = nI (n - 2 ^ u - 256 * 2 ^ q) := by
    apply Int32.toBitVec_inj.1
    apply BitVec.eq_of_toNat_eq
    rw [ex, pk_tn (by omega)]
  have eN : cN x = n - 2 ^ u - 256 * 2 ^ q := cN_of exx (by omega)
  refine ⟨exx, ⟨?_, ?_⟩⟩
  · rw [exx]; exact nI_r (by omega) (by omega)
  · rw [eN, ← k3, k1, k2]; omega
theorem pc_p : ∀ s, s < 256 → 0 < s → 0 < pc s := by decide +kernel
theorem bi_7 {n s : Int32} {m : Nat} (h : cN n + pc (cN s) = pc m) (rn : Rg 0 8 n) (rs : Rg 0 255 s) (c : ¬ s = 0) : Rg 0 7 n := by
  have h1 := cN_i rn (by decide)
  have e := cN_nI rs (by decide)
  have h0 : 0 < cN s := by
    rcases Nat.eq_zero_or_pos (cN s) with q | q
    · rw [q] at e; exact absurd e c
    · exact q
  have h2 := pc_p (cN s) (cN_lt rs (by decide)) h0
  have h3 := pc_le m
  exact ⟨rn.1, by omega⟩
theorem pl_cl {a b x y : Int32} (h1 : y = nI (pc (cN a % 256 % 2 ^ cN b))) (ex : x = nI (cN a / 256)) (ha : Rg 0 65535 a) : nI (nthF (cN x) (cN y)) = nI (plF (cN a) (cN b)) := by
  rw [c_in ex ha, cN_of h1 (by have := pc_le (cN a % 256 % 2 ^ cN b); omega)]
  rfl
theorem pl_rg {a b : Int32} (hk : BK a) (rb : Rg 0 7 b) (hb : bt (cN a % 256) (cN b) = 1) : Rg 0 7 (nI (plF (cN a) (cN b))) := by
  have h := (pl_s hk rb hb).1
  exact nI_r (by omega) (by omega)
