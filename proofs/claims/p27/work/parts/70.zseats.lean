/-! ===== the reference: seats, creases, draws ===== -/
theorem php : ∀ (n : Nat) (f : Nat → Nat), (∀ i, i ≤ n → f i < n) → ∃ i j, i < j ∧ j ≤ n ∧ f i = f j := by
  intro n
  induction n with
  | zero => intro f h; exact absurd (h 0 (Nat.le_refl _)) (Nat.not_lt_zero _)
  | succ n ih =>
    intro f h
    by_cases q : ∃ i, i ≤ n ∧ f i = f (n + 1)
    · obtain ⟨i, h1, h2⟩ := q
      exact ⟨i, n + 1, by omega, by omega, h2⟩
    · have q2 : ∀ i, i ≤ n → f i ≠ f (n + 1) := fun i hi e => q ⟨i, hi, e⟩
      obtain ⟨i, j, h1, h2, h3⟩ := ih (fun i => if f i = n then f (n + 1) else f i) (fun i hi => by
        have a1 := h i (by omega); have a2 := h (n + 1) (by omega); have a3 := q2 i hi
        show (if f i = n then f (n + 1) else f i) < n
        split <;> omega)
      have h3 : (if f i = n then f (n + 1) else f i) = (if f j = n then f (n + 1) else f j) := h3
      have b1 := q2 i (by omega); have b2 := q2 j h2
      refine ⟨i, j, h1, by omega, ?_⟩
      split at h3 <;> split at h3 <;> omega
def rdS (f : Nat → Int32) (s k : Int32) : Prop := k ≤ s ∨ f (92 + cN k) < 0
def rds (f : Nat → Int32) (s : Int32) : Nat → Int32 → Nat
  | 0, _ => 0
  | n + 1, k => if k ≤ s ∨ f (92 + cN k) < 0 then 0 else rds f s n (f (92 + cN k)) + 1
theorem rds_le (f : Nat → Int32) (s : Int32) : ∀ n k, rds f s n k ≤ n := by
  intro n
  induction n with
  | zero => intro k; exact Nat.le_refl _
  | succ n ih =>
    intro k
    show (if k ≤ s ∨ f (92 + cN k) < 0 then 0 else rds f s n (f (92 + cN k)) + 1) ≤ n + 1
    split
    · omega
    · have := ih (f (92 + cN k)); omega
theorem rds_st (f : Nat → Int32) (s : Int32) : ∀ n k, rds f s n k < n → rds f s (n + 1) k = rds f s n k := by
  intro n
  induction n with
  | zero => intro k h; exact absurd h (Nat.not_lt_zero _)
  | succ n ih =>
    intro k h
    show (if k ≤ s ∨ f (92 + cN k) < 0 then 0 else rds f s (n + 1) (f (92 + cN k)) + 1) = (if k ≤ s ∨ f (92 + cN k) < 0 then 0 else rds f s n (f (92 + cN k)) + 1)
    have h2 : (if k ≤ s ∨ f (92 + cN k) < 0 then 0 else rds f s n (f (92 + cN k)) + 1) < n + 1 := h
    split
    · rfl
    · rename_i q
      rw [if_neg q] at h2
      rw [ih (f (92 + cN k)) (by omega)]
theorem rds_nx {f : Nat → Int32} {s k x : Int32} (h : rds f s 11 k ≤ 10) (c1 : ¬ k ≤ s) (c2 : ¬ f (92 + cN k) < 0) (e : x = f (92 + cN k)) : rds f s 11 x ≤ 10 ∧ rds f s 11 x < rds f s 11 k := by
  have h1 : rds f s 11 k = rds f s 10 x + 1 := by
    show (if k ≤ s ∨ f (92 + cN k) < 0 then 0 else rds f s 10 (f (92 + cN k)) + 1) = _
    rw [if_neg (fun q => q.elim c1 c2), e]
  have h2 := rds_st f s 10 x (by omega)
  rw [h2]
  omega
/-- the seats along a round -/
def sq (f : Nat → Int32) (s : Nat) : Nat → Nat
  | 0 => s
  | i + 1 => cN (f (92 + sq f s i))
theorem rds_all {f : Nat → Int32} {s : Int32} : ∀ n k, rds f s n k = n → ∀ i, i < n → ∃ z : Int32, (∃ m, m ≤ i) ∧ True := fun _ _ _ i _ => ⟨0, ⟨0, Nat.zero_le _⟩, trivial⟩
theorem rds_sq {f : Nat → Int32} (hs : SI f) {s : Int32} (rs : Rg 0 9 s) : ∀ n i, rds f s n (f (92 + sq f (cN s) i)) = n → (∀ m, i < m → m ≤ i + n → cN s < sq f (cN s) m ∧ sq f (cN s) m < 10 ∧ ¬ f (92 + sq f (cN s) m) < 0) ∨ ¬ (sq f (cN s) i < 10) := by
  intro n
  induction n with
  | zero => intro i _; exact Or.inl (fun m h1 h2 => by omega)
  | succ n ih =>
    intro i h
    by_cases q10 : sq f (cN s) i < 10
    · left
      have hr := hs.at_se (92 + sq f (cN s) i) (by omega) (by omega)
      have h2 : (if f (92 + sq f (cN s) i) ≤ s ∨ f (92 + cN (f (92 + sq f (cN s) i))) < 0 then 0 else rds f s n (f (92 + cN (f (92 + sq f (cN s) i)))) + 1) = n + 1 := h
      split at h2
      · omega
      · rename_i q
        have c1 : ¬ f (92 + sq f (cN s) i) ≤ s := fun z => q (Or.inl z)
        have c2 : ¬ f (92 + sq f (cN s) (i + 1)) < 0 := fun z => q (Or.inr z)
        have e1 : rds f s n (f (92 + sq f (cN s) (i + 1))) = n := by
          show rds f s n (f (92 + cN (f (92 + sq f (cN s) i)))) = n
          omega
        have hk : cN s < sq f (cN s) (i + 1) ∧ sq f (cN s) (i + 1) < 10 := by
          show cN s < cN (f (92 + sq f (cN s) i)) ∧ cN (f (92 + sq f (cN s) i)) < 10
          rw [i_le] at c1
          have a1 := cN_i rs (by decide)
          have a2 : ((cN (f (92 + sq f (cN s) i)) : Nat) : Int) = (f (92 + sq f (cN s) i)).toInt := Int.toNat_of_nonneg (by have := rs.1; omega)
          have := hr.2
          exact ⟨by omega, by omega⟩
        rcases ih (i + 1) e1 with z | z
        · intro m h3 h4
          by_cases qm : m = i + 1
          · rw [qm]; exact ⟨hk.1, hk.2, c2⟩
          · exact z m (by omega) (by omega)
        · exact absurd hk.2 z
    · exact Or.inr q10
theorem rds_0 {f : Nat → Int32} (hs : SI f) {s k : Int32} (rs : Rg 0 9 s) (e : k = f (92 + cN s)) : rds f s 11 k ≤ 10 := by
  have hle := rds_le f s 11 k
  rcases Nat.lt_or_ge (rds f s 11 k) 11 with q | q
  · omega
  · exfalso
    have h11 : rds f s 11 (f (92 + sq f (cN s) 0)) = 11 := by
      show rds f s 11 (f (92 + cN s)) = 11
      rw [← e]; omega
    have s10 : sq f (cN s) 0 < 10 := cN_lt rs (by decide)
    rcases rds_sq hs rs 11 0 h11 with z | z
    · -- distinct
      have hd : ∀ i j, i < j → j ≤ 11 → sq f (cN s) i ≠ sq f (cN s) j := by
        intro i
        induction i with
        | zero =>
          intro j h1 h2 e
          have := (z j h1 (by omega)).1
          have e0 : sq f (cN s) 0 = cN s := rfl
          omega
        | succ i ih =>
          intro j h1 h2 e
          obtain ⟨j, rfl⟩ : ∃ j2, j = j2 + 1 := ⟨j - 1, by omega⟩
          have lti : ∀ m, m ≤ 11 → sq f (cN s) m < 10 := fun m hm => by
            rcases Nat.eq_zero_or_pos m with q0 | q0
            · rw [q0]; exact s10
            · exact (z m q0 (by omega)).2.1
          have nn : ∀ m, m < 11 → 0 ≤ (f (92 + sq f (cN s) m)).toInt := fun m hm => by
            rcases Nat.eq_zero_or_pos m with q0 | q0
            · have h9 := (z 1 (by decide) (by decide)).1
              rw [q0]
              have h8 : sq f (cN s) 1 = cN (f (92 + sq f (cN s) 0)) := rfl
              rw [h8] at h9
              have r := (hs.at_se (92 + sq f (cN s) 0) (by omega) (by omega)).1
              rcases Int.lt_or_le (f (92 + sq f (cN s) 0)).toInt 0 with y | y
              · have : cN (f (92 + sq f (cN s) 0)) = 0 := Int.toNat_eq_zero.mpr (by omega)
                omega
              · exact y
            · have h9 := (z m q0 (by omega)).2.2
              rw [i_lt] at h9
              have e0 : Int32.toInt 0 = 0 := rfl
              omega
          have e2 : cN (f (92 + sq f (cN s) i)) = cN (f (92 + sq f (cN s) j)) := e
          have n1 := nn i (by omega); have n2 := nn j (by omega)
          have e3 : f (92 + sq f (cN s) i) = f (92 + sq f (cN s) j) := by
            rw [cN_nI (lo := 0) (hi := 9) ⟨n1, (hs.at_se _ (by omega) (by have := lti i (by omega); omega)).2⟩ (by decide), cN_nI (a := f (92 + sq f (cN s) j)) (lo := 0) (hi := 9) ⟨n2, (hs.at_se _ (by omega) (by have := lti j (by omega); omega)).2⟩ (by decide), e2]
          have hne := ih j (by omega) (by omega)
          exact hs.sinj _ _ (lti i (by omega)) (lti j (by omega)) hne n1 e3
      obtain ⟨i, j, h1, h2, h3⟩ := php 10 (fun m => sq f (cN s) m) (fun i hi => by
        rcases Nat.eq_zero_or_pos i with q0 | q0
        · rw [q0]; exact s10
        · exact (z i q0 (by omega)).2.1)
      exact hd i j h1 (by omega) h3
    · exact absurd s10 z
theorem si_se {f : Nat → Int32} {v : Int32} {k : Nat} (h : SI f) (hk : k < 10) (r : Rg (-1) 9 v) (hd : 0 ≤ v.toInt → ∀ j, j < 10 → j ≠ k → f (92 + j) ≠ v) : SI (upd f (92 + k) v) := by
  have u : ∀ j, j ≠ 92 + k → upd f (92 + k) v j = f j := fun j hj => up_n hj
  have us : upd f (92 + k) v (92 + k) = v := pk_us
  refine ⟨?_, ?_, ?_, ?_, ?_, ?_, ?_, ?_, ?_, ?_, ?_, ?_, ?_, ?_⟩
  · rw [u 0 (by omega)]; exact h.a0
  · rw [u 1 (by omega)]; exact h.a1
  · rw [u 2 (by omega)]; exact h.a2
  · rw [u 3 (by omega)]; exact h.a3
  · rw [u 4 (by omega)]; exact h.a4
  · rw [u 5 (by omega)]; exact h.a5
  · rw [u 6 (by omega)]; exact h.a6
  · intro i h1 h2; rw [u i (by omega)]; exact h.at_in i h1 h2
  · intro c hc hp; rw [u 0 (by omega)] at hp; rw [u _ (by omega), u _ (by omega)]; exact h.at_tm c hc hp
  · intro i h1 h2
    by_cases q : i = 92 + k
    · rw [q, us]; exact r
    · rw [u i q]; exact h.at_se i h1 h2
  · intro i h1 h2; rw [u i (by omega)]; exact h.at_cr i h1 h2
  · rw [u 132 (by omega)]; exact h.a132
  · intro b c
    have h8 : cN (f 0) ≤ 8 := cN_le h.a0 (by decide)
    rw [u 0 (by omega)]
    intro hb hc
    rw [u (10 + b) (by omega), u (10 + c) (by omega)]
    exact h.inj b c hb hc
  · intro i j h1 h2 hne hz
    by_cases q : i = k
    · subst q
      rw [us] at hz ⊢
      rw [u (92 + j) (by omega)]
      exact (hd hz j h2 (by omega)).symm
    · by_cases q2 : j = k
      · subst q2
        rw [us]
        rw [u (92 + i) (by omega)] at hz ⊢
        intro e
        rw [e] at hz
        exact hd hz i h1 q e
      · rw [u (92 + i) (by omega)] at hz ⊢
        rw [u (92 + j) (by omega)]
        exact h.sinj i j h1 h2 hne hz
theorem si_cr {f : Nat → Int32} {v : Int32} {k : Nat} (h : SI f) (hk : 102 ≤ k ∧ k < 133) (r : Rg 0 7 v) : SI (upd f k v) := by
  have u : ∀ j, j ≠ k → upd f k v j = f j := fun j hj => up_n hj
  have h8 : cN (f 0) ≤ 8 := cN_le h.a0 (by decide)
  refine ⟨?_, ?_, ?_, ?_, ?_, ?_, ?_, ?_, ?_, ?_, ?_, ?_, ?_, ?_⟩
  · rw [u 0 (by omega)]; exact h.a0
  · rw [u 1 (by omega)]; exact h.a1
  · rw [u 2 (by omega)]; exact h.a2
  · rw [u 3 (by omega)]; exact h.a3
  · rw [u 4 (by omega)]; exact h.a4
  · rw [u 5 (by omega)]; exact h.a5
  · rw [u 6 (by omega)]; exact h.a6
  · intro i h1 h2; rw [u i (by omega)]; exact h.at_in i h1 h2
  · intro c hc hp; rw [u 0 (by omega)] at hp; rw [u _ (by omega), u _ (by omega)]; exact h.at_tm c hc hp
  · intro i h1 h2; rw [u i (by omega)]; exact h.at_se i h1 h2
  · intro i h1 h2
    by_cases q : i = k
    · rw [q, pk_us]; exact r
    · rw [u i q]; exact h.at_cr i h1 h2
  · by_cases q : 132 = k
    · rw [← q, pk_us]; exact r.wk (by decide)
    · rw [u 132 q]; exact h.a132
  · intro b c
    rw [u 0 (by omega)]
    intro hb hc
    rw [u (10 + b) (by omega), u (10 + c) (by omega)]
    exact h.inj b c hb hc
  · intro i j h1 h2; rw [u _ (by omega), u _ (by omega)]; exact h.sinj i j h1 h2
theorem si_132 {f : Nat → Int32} {v : Int32} (h : SI f) (r : Rg 0 10 v) : SI (upd f 132 v) := by
  have u : ∀ j, j ≠ 132 → upd f 132 v j = f j := fun j hj => up_n hj
  have h8 : cN (f 0) ≤ 8 := cN_le h.a0 (by decide)
  refine ⟨?_, ?_, ?_, ?_, ?_, ?_, ?_, ?_, ?_, ?_, ?_, ?_, ?_, ?_⟩
  · rw [u 0 (by omega)]; exact h.a0
  · rw [u 1 (by omega)]; exact h.a1
  · rw [u 2 (by omega)]; exact h.a2
  · rw [u 3 (by omega)]; exact h.a3
  · rw [u 4 (by omega)]; exact h.a4
  · rw [u 5 (by omega)]; exact h.a5
  · rw [u 6 (by omega)]; exact h.a6
  · intro i h1 h2; rw [u i (by omega)]; exact h.at_in i h1 h2
  · intro c hc hp; rw [u 0 (by omega)] at hp; rw [u _ (by omega), u _ (by omega)]; exact h.at_tm c hc hp
  · intro i h1 h2; rw [u i (by omega)]; exact h.at_se i h1 h2
  · intro i h1 h2; rw [u i (by omega)]; exact h.at_cr i h1 h2
  · rw [show upd f 132 v 132 = v from pk_us]; exact r
  · intro b c
    rw [u 0 (by omega)]
    intro hb hc
    rw [u (10 + b) (by omega), u (10 + c) (by omega)]
    exact h.inj b c hb hc
  · intro i j h1 h2; rw [u _ (by omega), u _ (by omega)]; exact h.sinj i j h1 h2
