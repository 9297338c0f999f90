/-! ===== the reference: draws, images, what may be by its place ===== -/
def D31 (d : Int64) : Prop := ∃ n : Nat, n < 2147483648 ∧ d = lN n
theorem dr_d {d a b c : Int64} (h : D31 d) (e1 : a = d * 1103515245) (e2 : b = a + 12345) (e3 : c = b - b / 2147483648 * 2147483648) : D31 c := by
  obtain ⟨n, hn, rfl⟩ := h
  have e : c = lN ((n * 1103515245 + 12345) % 2147483648) := by
    rw [e3, e2, e1, show (1103515245 : Int64) = lN 1103515245 from rfl, lN_mul, show (12345 : Int64) = lN 12345 from rfl, lN_add, show (2147483648 : Int64) = lN 2147483648 from rfl, pk_lRem (by omega) (by decide) (by decide)]
  exact ⟨_, Nat.mod_lt _ (by decide), e⟩
theorem dr_ne {y : Int64} {b : Int32} {lo hi : Int} (e : y = b.toInt64) (r : Rg lo hi b) (h : 1 ≤ lo) : ¬ y = 0 := by
  intro q
  have h1 : y.toInt = b.toInt := by rw [e, i64]
  rw [q] at h1
  have e0 : Int64.toInt 0 = 0 := rfl
  have := r.1; omega
theorem dr_x {d a y c : Int64} {b x : Int32} {lo hi : Int} (h : D31 d) (e1 : a = d / 65536) (ey : y = b.toInt64) (e2 : c = a - a / y * y) (e3 : c.toInt32 = x) (r : Rg lo hi b) (hh : 1 ≤ lo) : 0 ≤ x.toInt ∧ cN x < cN b := by
  obtain ⟨n, hn, rfl⟩ := h
  have eb := cN_nI r (by omega)
  have hb := cN_31 b r (by omega)
  have hp : 0 < cN b := by have := cN_i r (by omega); have := r.1; omega
  have e : x = nI (n / 65536 % cN b) := by
    rw [← e3, e2, ey, e1, eb, nI_l hb, show (65536 : Int64) = lN 65536 from rfl, pk_lDiv (by omega) (by decide) (by decide), pk_lRem (by omega) hp (by omega), lN_i, ← eb]
  have hm := Nat.mod_lt (n / 65536) hp
  have e4 : cN x = n / 65536 % cN b := cN_of e (by omega)
  refine ⟨?_, by omega⟩
  rw [e, nI_toInt (by omega)]; omega
theorem d_x {x : Int32} {d : Int64} {hi : Int} (r : Rg 0 hi x) (e : d = x.toInt64) : D31 d := by
  have h := cN_31 x r (by decide)
  exact ⟨cN x, by omega, by rw [e, ← nI_l h, ← cN_nI r (by decide)]⟩
theorem si_ext {f g : Nat → Int32} (h : SI f) (e : ∀ i, i < 133 → g i = f i) : SI g := by
  have h8 : cN (f 0) ≤ 8 := cN_le h.a0 (by decide)
  refine ⟨?_, ?_, ?_, ?_, ?_, ?_, ?_, ?_, ?_, ?_, ?_, ?_, ?_, ?_⟩
  · rw [e 0 (by decide)]; exact h.a0
  · rw [e 1 (by decide)]; exact h.a1
  · rw [e 2 (by decide)]; exact h.a2
  · rw [e 3 (by decide)]; exact h.a3
  · rw [e 4 (by decide)]; exact h.a4
  · rw [e 5 (by decide)]; exact h.a5
  · rw [e 6 (by decide)]; exact h.a6
  · intro i h1 h2; rw [e i (by omega)]; exact h.at_in i h1 h2
  · intro c hc hp; rw [e 0 (by decide)] at hp; rw [e _ (by omega), e _ (by omega)]; exact h.at_tm c hc hp
  · intro i h1 h2; rw [e i (by omega)]; exact h.at_se i h1 h2
  · intro i h1 h2; rw [e i (by omega)]; exact h.at_cr i h1 h2
  · rw [e 132 (by decide)]; exact h.a132
  · intro b c
    rw [e 0 (by decide)]
    intro hb hc
    rw [e (10 + b) (by omega), e (10 + c) (by omega)]
    exact h.inj b c hb hc
  · intro i j h1 h2; rw [e _ (by omega), e _ (by omega)]; exact h.sinj i j h1 h2
theorem ixk {a i x y : Int32} {lo hi lo2 hi2 : Int} (e1 : x = 133 * a) (e2 : y = x + i) (ra : Rg lo hi a) (ri : Rg lo2 hi2 i) (hh : 0 ≤ lo ∧ hi ≤ 100 ∧ 0 ≤ lo2 ∧ hi2 ≤ 1000) : cN y = 133 * cN a + cN i := by
  have eu := cN_nI ra hh.1
  have eb := cN_nI ri hh.2.2.1
  have h1 := cN_i ra hh.1; have h2 := cN_i ri hh.2.2.1
  have := ra.2; have := ri.2
  have e : y = nI (133 * cN a + cN i) := by rw [e2, e1, eu, eb, show (133 : Int32) = nI 133 from rfl, pk_mul, nI_add, ← eu, ← eb]
  exact cN_of e (by omega)
/-- an image of what was told -/
def IMG (f0 g0 g : Nat → Int32) (a n : Nat) : Prop := (∀ j, j < 4 → j ≠ a → ∀ i, i < 133 → g (133 * j + i) = g0 (133 * j + i)) ∧ ∀ i, i < n → g (133 * a + i) = f0 i
theorem img_0 {f0 g0 : Nat → Int32} {a : Nat} : IMG f0 g0 g0 a 0 := ⟨fun _ _ _ _ _ => rfl, fun i hi => absurd hi (Nat.not_lt_zero i)⟩
theorem img_st {f0 g0 g : Nat → Int32} {a : Nat} {x i v : Int32} (h : IMG f0 g0 g a (cN i)) (ha : a < 4) (hi : cN i < 133) (ex : cN x = 133 * a + cN i) (ev : v = f0 (cN i)) : IMG f0 g0 (upd g (cN x) v) a (cN i + 1) := by
  refine ⟨fun j hj hne k hk => ?_, fun k hk => ?_⟩
  · rw [up_n (by omega)]; exact h.1 j hj hne k hk
  · by_cases q : k = cN i
    · rw [q, ← ex, pk_us, ev]
    · rw [up_n (by omega)]; exact h.2 k (by omega)
def BCK (f0 f g : Nat → Int32) (a n : Nat) : Prop := ∀ i, i < n → f i = g (133 * a + i)
theorem bck_st {f0 f g : Nat → Int32} {a : Nat} {i v : Int32} (h : BCK f0 f g a (cN i)) (ev : v = g (133 * a + cN i)) : BCK f0 (upd f (cN i) v) g a (cN i + 1) := by
  intro k hk
  by_cases q : k = cN i
  · rw [q, pk_us, ev]
  · rw [up_n q]; exact h k (by omega)
/-- what mayAt answers -/
def MAT (f : Nat → Int32) (c : Nat) (k x : Int32) : Prop := (∃ t, t < 72 ∧ x = nI t ∧ ¬ blF f c t < 0 ∧ nI (cntF f c t) = k) ∨ (x = -1 - nI (cntF f c 72) ∧ (0 ≤ k.toInt → cntF f c 72 ≤ cN k))
theorem mat_rg {f : Nat → Int32} {c : Nat} {k x : Int32} (h : MAT f c k x) : Rg (-73) 71 x := by
  rcases h with ⟨t, h1, h2, -, -⟩ | ⟨h1, -⟩
  · rw [h2]; exact nI_r (by omega) (by omega)
  · have h3 := cnt_le f c 72
    have r := nI_r (n := cntF f c 72) (lo := 0) (hi := 72) (by omega) (by omega)
    exact Rg.sub h1 (Rg.c (c := -1) (k := -1) rfl) r (by decide)
theorem ma_inc {n k x : Int32} {m : Nat} (en : n = nI m) (hm : m < 2147483648) (c : ¬ n = k) (hk : 0 ≤ k.toInt → m ≤ cN k) : 0 ≤ k.toInt → m + 1 ≤ cN k := by
  intro h0
  have h1 := hk h0
  rcases Nat.lt_or_ge m (cN k) with q | q
  · exact q
  · exfalso
    apply c
    have e : m = cN k := by omega
    rw [en, e]
    exact (cN_nI (lo := 0) (hi := k.toInt) ⟨h0, Int.le_refl _⟩ (by decide)).symm
theorem many_x {f : Nat → Int32} {c : Nat} {x y : Int32} (h : MAT f c 72 x) (e : y = -1 - x) : y = nI (cntF f c 72) := by
  rcases h with ⟨t, h1, h2, h3, h4⟩ | ⟨h1, -⟩
  · exfalso
    have h5 := cnt_le f c t
    have h6 := (nI_eq (a := cntF f c t) (b := 72) (by omega) (by decide)).mp h4
    omega
  · rw [e, h1]
    apply Int32.toInt_inj.mp
    have h3 := cnt_le f c 72
    have r := nI_r (n := cntF f c 72) (lo := 0) (hi := 72) (by omega) (by omega)
    have e1 := Rg.subE (x := -1 - nI (cntF f c 72)) rfl (Rg.c (c := -1) (k := -1) rfl) r (by decide)
    have e2 : (-1 : Int32).toInt = -1 := rfl
    have r2 : Rg (-73) (-1) (-1 - nI (cntF f c 72)) := Rg.sub rfl (Rg.c (c := -1) (k := -1) rfl) r (by decide)
    have e3 := Rg.subE (x := -1 - (-1 - nI (cntF f c 72))) rfl (Rg.c (c := -1) (k := -1) rfl) r2 (by decide)
    rw [e3, e1, e2]; omega
theorem mat_y {f : Nat → Int32} {c : Nat} {k x y : Int32} (h : MAT f c k x) (ey : y = nI (cntF f c 72)) (h0 : 0 ≤ k.toInt) (hk : cN k < cN y) : ∃ t, t < 72 ∧ x = nI t ∧ ¬ blF f c t < 0 := by
  rcases h with ⟨t, h1, h2, h3, h4⟩ | ⟨h1, h2⟩
  · exact ⟨t, h1, h2, h3⟩
  · exfalso
    have h3 := cnt_le f c 72
    rw [cN_of ey (by omega)] at hk
    have := h2 h0; omega
theorem mat_0 {f : Nat → Int32} {c : Nat} {k x : Int32} (h : MAT f c k x) (h0 : ¬ x < 0) : ∃ t, t < 72 ∧ x = nI t ∧ ¬ blF f c t < 0 := by
  rcases h with ⟨t, h1, h2, h3, h4⟩ | ⟨h1, h2⟩
  · exact ⟨t, h1, h2, h3⟩
  · exfalso
    have h3 := cnt_le f c 72
    have r := nI_r (n := cntF f c 72) (lo := 0) (hi := 72) (by omega) (by omega)
    have r2 : Rg (-73) (-1) x := Rg.sub h1 (Rg.c (c := -1) (k := -1) rfl) r (by decide)
    apply h0
    rw [i_lt]
    have e0 : Int32.toInt 0 = 0 := rfl
    have := r2.2; omega
/-- an act that may be, by its number -/
def ACT (f : Nat → Int32) (c : Nat) (x : Int32) : Prop := Rg 0 71 x ∧ ¬ blF f c (cN x) < 0
theorem act_of {f : Nat → Int32} {c : Nat} {x : Int32} (h : ∃ t, t < 72 ∧ x = nI t ∧ ¬ blF f c t < 0) : ACT f c x := by
  obtain ⟨t, h1, h2, h3⟩ := h
  refine ⟨by rw [h2]; exact nI_r (by omega) (by omega), ?_⟩
  rw [cN_of h2 (by omega)]; exact h3
