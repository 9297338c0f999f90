/-! ===== rounds of seats, by so many steps ===== -/
def CH (f : Nat → Int32) (s : Int32) : Nat → Int32
  | 0 => f (cN s)
  | m + 1 => if CH f s m ≤ s then CH f s m else f (cN (CH f s m))
theorem CH_0 (f : Nat → Int32) (s : Int32) : CH f s 0 = f (cN s) := rfl
theorem CH_s {f : Nat → Int32} {s : Int32} {m : Nat} (h : ¬ CH f s m ≤ s) : CH f s (m + 1) = f (cN (CH f s m)) := if_neg h
theorem CH_e {f : Nat → Int32} {s : Int32} {m : Nat} (h : CH f s m ≤ s) : CH f s (m + 1) = CH f s m := if_pos h
theorem CH_stop {f : Nat → Int32} {s : Int32} {m : Nat} (h : CH f s m ≤ s) : ∀ k, CH f s (m + k) = CH f s m := by
  intro k
  induction k with
  | zero => rfl
  | succ k ih =>
    have e : CH f s (m + k) ≤ s := by rw [ih]; exact h
    rw [show m + (k + 1) = (m + k) + 1 from rfl, CH_e e, ih]
theorem CH_same {f : Nat → Int32} {s : Int32} {m n : Nat} (h : CH f s m ≤ s) (hn : m ≤ n) : CH f s n = CH f s m := by
  have := CH_stop h (n - m)
  rw [show m + (n - m) = n by omega] at this
  exact this
theorem CH_on {f : Nat → Int32} {s : Int32} {m n : Nat} (h : ¬ CH f s n ≤ s) (hn : m ≤ n) : ¬ CH f s m ≤ s := fun q => h (by rw [CH_same q hn]; exact q)
/-- all that sit there are below n, and nobody sits twice -/
def STN (f : Nat → Int32) (n : Nat) : Prop := (∀ j, j < 10 → Rg (-1) 9 (f j)) ∧ (∀ i j, i < 10 → j < 10 → i ≠ j → 0 ≤ (f i).toInt → f i ≠ f j) ∧ n ≤ 10 ∧ ∀ j, j < n → (f j).toInt < n
theorem CH_rg {f : Nat → Int32} {n : Nat} (h : STN f n) {s : Int32} {hi : Int} (rs : Rg 0 hi s) (hs : s.toInt < n) : ∀ m, ¬ CH f s m ≤ s → s.toInt < (CH f s m).toInt ∧ (CH f s m).toInt < n := by
  obtain ⟨h1, h2, h3, h4⟩ := h
  intro m
  have es := cN_i rs (by decide)
  induction m with
  | zero =>
    intro q
    rw [i_le] at q
    have := h4 (cN s) (by omega)
    rw [CH_0] at q ⊢
    omega
  | succ m ih =>
    intro q
    have q1 := CH_on q (Nat.le_succ m)
    obtain ⟨a1, a2⟩ := ih q1
    have hc : ((cN (CH f s m) : Nat) : Int) = (CH f s m).toInt := Int.toNat_of_nonneg (by have := rs.1; omega)
    have := h4 (cN (CH f s m)) (by omega)
    rw [i_le] at q
    rw [CH_s q1] at q ⊢
    omega
theorem CH_inj {f : Nat → Int32} {n : Nat} (h : STN f n) {s : Int32} {hi : Int} (rs : Rg 0 hi s) (hs : s.toInt < n) : ∀ i j, i < j → ¬ CH f s j ≤ s → cN (CH f s i) ≠ cN (CH f s j) := by
  have es := cN_i rs (by decide)
  have r0 := rs.1
  have cc : ∀ m, ¬ CH f s m ≤ s → ((cN (CH f s m) : Nat) : Int) = (CH f s m).toInt := fun m q => Int.toNat_of_nonneg (by have := (CH_rg h rs hs m q).1; omega)
  have n10 := h.2.2.1
  intro i
  induction i with
  | zero =>
    intro j hj q e
    obtain ⟨j, rfl⟩ : ∃ k, j = k + 1 := ⟨j - 1, by omega⟩
    have qj := CH_on q (Nat.le_succ j)
    have q0 := CH_on q (Nat.zero_le (j + 1))
    have b0 := CH_rg h rs hs 0 q0
    have bj := CH_rg h rs hs j qj
    have c0 := cc 0 q0; have cj := cc j qj; have cj1 := cc (j + 1) q
    have e2 : CH f s 0 = CH f s (j + 1) := Int32.toInt_inj.mp (by omega)
    rw [CH_0, CH_s qj] at e2
    rw [CH_0] at b0
    exact h.2.1 (cN s) (cN (CH f s j)) (by omega) (by omega) (by omega) (by omega) e2
  | succ i ih =>
    intro j hj q e
    obtain ⟨j, rfl⟩ : ∃ k, j = k + 1 := ⟨j - 1, by omega⟩
    have qj := CH_on q (Nat.le_succ j)
    have qi1 := CH_on q (show i + 1 ≤ j + 1 by omega)
    have qi := CH_on q (show i ≤ j + 1 by omega)
    have bi := CH_rg h rs hs i qi; have bi1 := CH_rg h rs hs (i + 1) qi1
    have bj := CH_rg h rs hs j qj
    have ci := cc i qi; have ci1 := cc (i + 1) qi1; have cj := cc j qj; have cj1 := cc (j + 1) q
    have e2 : CH f s (i + 1) = CH f s (j + 1) := Int32.toInt_inj.mp (by omega)
    rw [CH_s qi] at bi1
    rw [CH_s qi, CH_s qj] at e2
    have d := ih j (by omega) qj
    exact h.2.1 (cN (CH f s i)) (cN (CH f s j)) (by omega) (by omega) d (by omega) e2
/-- in n steps it is over -/
theorem CH_over {f : Nat → Int32} {n : Nat} (h : STN f n) {s : Int32} {hi : Int} (rs : Rg 0 hi s) (hs : s.toInt < n) : CH f s n ≤ s := by
  rcases Decidable.em (CH f s n ≤ s) with q | q
  · exact q
  · exfalso
    have cc : ∀ m, m ≤ n → cN (CH f s m) < n := fun m hm => by
      have b := CH_rg h rs hs m (CH_on q hm)
      have : ((cN (CH f s m) : Nat) : Int) = (CH f s m).toInt := Int.toNat_of_nonneg (by have := rs.1; omega)
      omega
    obtain ⟨i, j, h1, h2, h3⟩ := php n (fun m => cN (CH f s m)) cc
    exact CH_inj h rs hs i j h1 (CH_on q h2) h3
/-- the reference's way, which stops at an empty seat -/
def RWY (f : Nat → Int32) (s k : Int32) (m : Nat) : Prop := k = CH f s m ∧ ∀ j, j < m → ¬ CH f s j ≤ s ∧ ¬ f (cN (CH f s j)) < 0
theorem RWY.nil {f : Nat → Int32} {s : Int32} : RWY f s (f (cN s)) 0 := ⟨rfl, fun _ h => absurd h (Nat.not_lt_zero _)⟩
theorem RWY.st {f : Nat → Int32} {s k x : Int32} {m : Nat} (h : RWY f s k m) (c1 : ¬ k ≤ s) (c2 : ¬ f (cN k) < 0) (e : x = f (cN k)) : RWY f s x (m + 1) := by
  obtain ⟨h1, h2⟩ := h
  subst h1
  refine ⟨by rw [e, CH_s c1], fun j hj => ?_⟩
  by_cases q : j = m
  · rw [q]; exact ⟨c1, c2⟩
  · exact h2 j (by omega)
theorem RWY.end {f : Nat → Int32} {s k : Int32} {m n : Nat} (h : RWY f s k m) (hn : STN f n) {hi : Int} (rs : Rg 0 hi s) (hs : s.toInt < n) (c : k ≤ s ∨ f (cN k) < 0) : (k = s ↔ CH f s n = s) := by
  obtain ⟨h1, h2⟩ := h
  have ov := CH_over hn rs hs
  by_cases c1 : k ≤ s
  · have hm : m ≤ n := by
      rcases Nat.lt_or_ge n m with q | q
      · exact absurd ov (h2 n q).1
      · exact q
    rw [CH_same (m := m) (by rw [← h1]; exact c1) hm, ← h1]
  · have c2 : f (cN k) < 0 := c.resolve_left c1
    have e1 : CH f s (m + 1) = f (cN k) := by rw [h1]; exact CH_s (by rw [← h1]; exact c1)
    have l1 : CH f s (m + 1) ≤ s := by
      rw [e1, i_le]
      rw [i_lt] at c2
      have e0 : Int32.toInt 0 = 0 := rfl
      have := rs.1
      omega
    have hm : m + 1 ≤ n := by
      rcases Nat.lt_or_ge n (m + 1) with q | q
      · rcases Nat.lt_or_ge n m with q2 | q2
        · exact absurd ov (h2 n q2).1
        · have e : n = m := by omega
          rw [e, ← h1] at ov
          exact absurd ov c1
      · exact q
    rw [CH_same l1 hm, e1]
    have e0 : Int32.toInt 0 = 0 := rfl
    have r0 := rs.1
    constructor
    · intro q; exact absurd (by rw [q, i_le]; exact Int.le_refl _) c1
    · intro q
      rw [q, i_lt] at c2
      omega
