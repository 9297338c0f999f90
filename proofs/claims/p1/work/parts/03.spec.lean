/-! ===== what a fresh object answers ===== -/
def r_end (n : Int32) : Int32 := if n < 0 ∨ 0 < n then -1 else 0
def r_seat (a b : Int32) : Int32 := if a < 0 ∨ 9 < a ∨ b < -1 ∨ 9 < b then -2 else -1
def r_moves (n : Int32) : Int32 := if n < 1 ∨ 10 < n then -1 else 0
def r_seed (x : Int32) : Int32 := if x < 0 then -1 else 0
def r_image (k : Int32) : Int32 := if k < 0 ∨ 3 < k then -1 else 0
def r_crease (k : Int32) : Int32 := if k = -1 then 0 else -2
def r_count (w : Int32) : Int32 := if Int32.toInt w < 0 ∨ 11 < Int32.toInt w then -1 else if w = 6 then -1 else if w = 9 then 10 else 0
def sd0 : Nat → Int32 := fun j => if 92 ≤ j ∧ j < 102 then -1 else 0
def b_rng (lo hi a : Int32) : Int32 := if a < lo ∨ hi < a then 0 else 1
theorem i_lt (a b : Int32) : a < b ↔ a.toInt < b.toInt := Int32.lt_iff_toInt_lt
theorem i_le (a b : Int32) : a ≤ b ↔ a.toInt ≤ b.toInt := Int32.le_iff_toInt_le
theorem i_A {a b : Int32} (h : ¬ b < a) : a ≤ b := by rw [i_lt] at h; rw [i_le]; omega
theorem i_B {a b : Int32} (h : b < a) : ¬ a ≤ b := by rw [i_lt] at h; rw [i_le]; omega
theorem i_C {a b : Int32} (h : b ≤ a) : ¬ a < b := by rw [i_le] at h; rw [i_lt]; omega
theorem i_D {a b : Int32} (h : ¬ b ≤ a) : a < b := by rw [i_le] at h; rw [i_lt]; omega
theorem x10 {a : Int32} : 10 ≤ a ↔ 9 < a := by
  rw [i_le, i_lt, show Int32.toInt 10 = 10 from rfl, show Int32.toInt 9 = 9 from rfl]; omega
theorem x4 {a : Int32} : 4 ≤ a ↔ 3 < a := by
  rw [i_le, i_lt, show Int32.toInt 4 = 4 from rfl, show Int32.toInt 3 = 3 from rfl]; omega
theorem lt10 {a : Int32} : a < 10 ↔ ¬ 9 < a := by
  rw [i_lt, i_lt, show Int32.toInt 10 = 10 from rfl, show Int32.toInt 9 = 9 from rfl]; omega
theorem lt4 {a : Int32} : a < 4 ↔ ¬ 3 < a := by
  rw [i_lt, i_lt, show Int32.toInt 4 = 4 from rfl, show Int32.toInt 3 = 3 from rfl]; omega
theorem le10 {a : Int32} : a ≤ 10 ↔ ¬ 10 < a := by
  rw [i_le, i_lt]; omega
theorem z_nlt {a : Int32} (h : ¬ a < 0) (h2 : ¬ 0 < a) : a = 0 := by
  rw [i_lt] at h h2
  have e0 : Int32.toInt 0 = 0 := rfl
  rw [e0] at h h2
  exact Int32.toInt_inj.mp (by rw [e0]; omega)
theorem rng_0 {lo hi a : Int32} (h : b_rng lo hi a = 0) : a < lo ∨ hi < a := by
  unfold b_rng at h
  by_cases q : a < lo ∨ hi < a
  · exact q
  · rw [if_neg q] at h; exact absurd h (by decide)
theorem rng_1 {lo hi a : Int32} (h : ¬ b_rng lo hi a = 0) : ¬ (a < lo ∨ hi < a) := fun q => h (by unfold b_rng; rw [if_pos q])
theorem cmp_t {x y : Int64} : (lg_cmp x y < 0 ↔ x.toInt < y.toInt) ∧ (0 < lg_cmp x y ↔ y.toInt < x.toInt) := by
  unfold lg_cmp
  have e1 : ∀ a b : Int64, a < b ↔ a.toInt < b.toInt := fun a b => Int64.lt_iff_toInt_lt
  by_cases h1 : x > y
  · rw [if_pos h1]
    have h2 := (e1 _ _).mp h1
    exact ⟨⟨fun h => absurd h (by decide), fun h => by omega⟩, ⟨fun _ => h2, fun _ => by decide⟩⟩
  · rw [if_neg h1]
    have h2 : ¬ y.toInt < x.toInt := fun h => h1 ((e1 _ _).mpr h)
    by_cases h3 : x = y
    · rw [if_pos h3]
      subst h3
      exact ⟨⟨fun h => absurd h (by decide), fun h => by omega⟩, ⟨fun h => absurd h (by decide), fun h => by omega⟩⟩
    · rw [if_neg h3]
      have h4 : x.toInt ≠ y.toInt := fun h => h3 (Int64.toInt_inj.mp h)
      exact ⟨⟨fun _ => by omega, fun _ => by decide⟩, ⟨fun h => absurd h (by decide), fun h => absurd h h2⟩⟩
theorem i64 (a : Int32) : a.toInt64.toInt = a.toInt := Int32.toInt_toInt64 a
theorem rng_lt {lo hi a : Int32} {L : Int64} (hL : L.toInt = lo.toInt) (h : lg_cmp a.toInt64 L < 0) : Value.int (b_rng lo hi a) = .int 0 := by
  have h2 := cmp_t.1.mp h
  rw [i64, hL] at h2
  unfold b_rng
  rw [if_pos (Or.inl ((i_lt _ _).mpr h2))]
theorem rng_gt {lo hi a : Int32} {U : Int64} (hU : U.toInt = hi.toInt) (h : 0 < lg_cmp a.toInt64 U) : Value.int (b_rng lo hi a) = .int 0 := by
  have h2 := cmp_t.2.mp h
  rw [i64, hU] at h2
  unfold b_rng
  rw [if_pos (Or.inr ((i_lt _ _).mpr h2))]
theorem rng_in {lo hi a : Int32} {L U : Int64} (hL : L.toInt = lo.toInt) (hU : U.toInt = hi.toInt) (h : ¬ lg_cmp a.toInt64 L < 0) (h9 : ¬ 0 < lg_cmp a.toInt64 U) : Value.int (b_rng lo hi a) = .int 1 := by
  unfold b_rng
  rw [if_neg]
  rintro (q | q)
  · exact h (cmp_t.1.mpr (by rw [i64, hL]; exact (i_lt _ _).mp q))
  · exact h9 (cmp_t.2.mpr (by rw [i64, hU]; exact (i_lt _ _).mp q))
theorem vi_n {a M : Int32} {n : Nat} (hM : M.toInt = n) (h1 : ¬ a < 0) (h2 : ¬ M ≤ a) : vp_in a n := by
  rw [vp_in_iff]
  rw [i_lt] at h1
  rw [i_le, hM] at h2
  have e0 : Int32.toInt 0 = 0 := rfl
  rw [e0] at h1
  omega
theorem vi_l {a M : Int32} {n : Nat} (hM : M.toInt = n) (h1 : ¬ a < 0) (h2 : a < M) : vp_in a n := by
  rw [vp_in_iff]
  rw [i_lt] at h1
  rw [i_lt, hM] at h2
  have e0 : Int32.toInt 0 = 0 := rfl
  rw [e0] at h1
  omega
theorem vi_r {a hi : Int32} {n : Nat} (hM : hi.toInt + 1 = n) (h : ¬ (a < 0 ∨ hi < a)) : vp_in a n := by
  rw [vp_in_iff]
  have h1 : ¬ a < 0 := fun q => h (Or.inl q)
  have h2 : ¬ hi < a := fun q => h (Or.inr q)
  rw [i_lt] at h1 h2
  have e0 : Int32.toInt 0 = 0 := rfl
  rw [e0] at h1
  omega
theorem se_x {x a : Int32} (e : x = 92 + a) (h : ¬ (a < 0 ∨ 9 < a)) : ∃ j : Nat, j < 10 ∧ x = nI (92 + j) := by
  obtain ⟨j, hj, rfl⟩ := vp_in_of (vi_r (n := 10) rfl h) (by decide)
  exact ⟨j, hj, by rw [e, show (92 : Int32) = nI 92 from rfl, nI_add]⟩
theorem se_i {x a : Int32} (e : x = 92 + a) (h : ¬ b_rng 0 9 a = 0) : vp_in x 133 := by
  obtain ⟨j, hj, rfl⟩ := se_x e (rng_1 h)
  exact vp_in_nI (by omega) (by decide)
theorem se_v {x a : Int32} (e : x = 92 + a) (h : ¬ b_rng 0 9 a = 0) : sd0 (Int32.toNatClampNeg x) = -1 := by
  obtain ⟨j, hj, rfl⟩ := se_x e (rng_1 h)
  rw [nI_clamp (by omega)]
  unfold sd0
  rw [if_pos ⟨by omega, by omega⟩]
theorem im_i {x y k : Int32} {i : Nat} (e1 : y = 133 * k) (e2 : x = y + nI i) (h : ¬ b_rng 0 3 k = 0) (hi : i < 133) : vp_in x 532 := by
  obtain ⟨j, hj, rfl⟩ := vp_in_of (vi_r (n := 4) rfl (rng_1 h)) (by decide)
  have e3 : x = nI (133 * j + i) := by rw [e2, e1, show (133 : Int32) = nI 133 from rfl, pk_mul, nI_add]
  rw [e3]
  exact vp_in_nI (by omega) (by decide)
theorem mo_1 {n : Int32} (h : ¬ n < 1) : -1 < n := by
  rw [i_lt] at h ⊢
  rw [show Int32.toInt 1 = 1 from rfl] at h
  rw [show Int32.toInt (-1) = -1 from rfl]
  omega
theorem mo_0 {n : Int32} (h : ¬ n < 1) : ¬ n ≤ 0 := by
  rw [i_lt] at h
  rw [i_le]
  rw [show Int32.toInt 1 = 1 from rfl] at h
  rw [show Int32.toInt 0 = 0 from rfl]
  omega
theorem ne_m1 {a : Int32} (h : ¬ a < 0) : ¬ -1 = a := fun q => h (by rw [← q]; decide)
