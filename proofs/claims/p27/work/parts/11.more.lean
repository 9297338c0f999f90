theorem lz_c {b : Int64} {x : Int32} (e : x = lg_cmp b 0) (h : ¬ x = 0) : ¬ b = 0 := by
  intro q; subst q; exact h (by rw [e]; rfl)
theorem in_ge {i : Int32} {n : Nat} {lo hi : Int} (c : ¬ nI n ≤ i) (r : Rg lo hi i) (h0 : 0 ≤ lo) (hn : n < 2147483648) : vp_in i n := by
  rw [vp_in_iff]
  rw [i_le, nI_toInt hn] at c
  have := r.1
  omega
theorem nI_rg {n : Nat} {hi : Int} (h : (n : Int) ≤ hi) (h2 : hi ≤ 2147483647) : Rg 0 hi (nI n) := by
  have h1 := nI_toInt (n := n) (by omega)
  exact ⟨by omega, by omega⟩
theorem Rg.unadd {x i c : Int32} {li hi_ k lx hx lo hi : Int} (e : x = i + c) (ri : Rg li hi_ i) (rc : Rg k k c) (rx : Rg lx hx x) (h : -2147483648 ≤ li + k ∧ hi_ + k ≤ 2147483647 ∧ (lo ≤ li ∨ lo ≤ lx - k) ∧ (hi_ ≤ hi ∨ hx - k ≤ hi)) : Rg lo hi i := by
  have h2 := Rg.addE e ri rc ⟨h.1, h.2.1⟩
  have := ri.1; have := ri.2; have := rc.1; have := rc.2; have := rx.1; have := rx.2
  exact ⟨by omega, by omega⟩
theorem in_b {i x y c k : Int32} {n : Nat} {lo hi a b : Int} (e1 : x = i + c) (h1 : ¬ nI n ≤ x) (e2 : y = i + k) (ri : Rg lo hi i) (rc : Rg a a c) (rk : Rg b b k) (h : 0 ≤ lo + b ∧ b ≤ a ∧ hi + a ≤ 2147483647 ∧ -2147483648 ≤ lo + a ∧ -2147483648 ≤ lo + b ∧ hi + b ≤ 2147483647) (hn : n < 2147483648) : vp_in y n := by
  have t1 := Rg.addE e1 ri rc ⟨by omega, by omega⟩
  have t2 := Rg.addE e2 ri rk ⟨by omega, by omega⟩
  rw [i_le, nI_toInt hn] at h1
  rw [vp_in_iff]
  have := ri.1; have := ri.2; have := rc.1; have := rc.2; have := rk.1; have := rk.2
  omega
theorem in_b0 {i x c : Int32} {n : Nat} {lo hi a : Int} (e1 : x = i + c) (h1 : ¬ nI n ≤ x) (ri : Rg lo hi i) (rc : Rg a a c) (h : 0 ≤ lo ∧ 0 ≤ a ∧ hi + a ≤ 2147483647 ∧ -2147483648 ≤ lo + a) (hn : n < 2147483648) : vp_in i n := by
  have t1 := Rg.addE e1 ri rc ⟨by omega, by omega⟩
  rw [i_le, nI_toInt hn] at h1
  rw [vp_in_iff]
  have := ri.1; have := ri.2; have := rc.1; have := rc.2
  omega
