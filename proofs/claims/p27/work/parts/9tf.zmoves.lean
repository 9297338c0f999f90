/-! ===== moves of the object ===== -/
theorem f10_rg {f : Nat → Int32} {n : Nat} {x : Int32} {lo hi : Int} (h : STN (F10 f) n) (r : Rg lo hi x) (hh : 0 ≤ lo ∧ hi ≤ 9) : Rg (-1) 9 (f (cN x)) := by
  have e := cN_i r hh.1
  have := r.2
  have q : cN x < 10 := by omega
  have := h.1 (cN x) q
  rw [f10 q] at this
  exact this
theorem nn_rg {x : Int32} {lo hi : Int} (r : Rg lo hi x) (h : 0 ≤ lo) : ¬ x < 0 := by
  rw [i_lt]
  have e0 : Int32.toInt 0 = 0 := rfl
  have := r.1
  omega
theorem mv_sum {f : Nat → Int32} {n : Nat} (h : awF f n = 0 ∨ emF f n ≠ 0) : mvF f n = nI (awF f n + rdF f n n) := by
  unfold mvF
  by_cases q : awF f n = 0
  · have := rd_aw f n n
    have e : rdF f n n = 0 := by omega
    rw [if_pos q, q, e]; rfl
  · rw [if_neg q, if_neg (h.resolve_left q)]
theorem le_0 {x : Int32} {n : Nat} (e : x = nI n) (c : x ≤ 0) (hn : n ≤ 10) : n = 0 := by
  rw [e, i_le, nI_toInt (by omega)] at c
  have e0 : Int32.toInt 0 = 0 := rfl
  omega
theorem CH_fin {f : Nat → Int32} {s k : Int32} {m n : Nat} (e : k = CH f s m) (hm : m ≤ n) (c : n ≤ m ∨ k ≤ s) : k = CH f s n := by
  rcases c with c | c
  · rw [e, show n = m by omega]
  · rw [e] at c ⊢; exact (CH_same c hm).symm
