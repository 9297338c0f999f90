theorem se_n {f : Nat → Int32} {b z k : Int32} (h : ∀ j, j < cN k → f (92 + j) ≠ b) (e : z = f (92 + cN k)) (c : ¬ z = b) : ∀ j, j < cN k + 1 → f (92 + j) ≠ b := by
  intro j hj
  rcases Nat.lt_or_ge j (cN k) with q | q
  · exact h j q
  · have e2 : j = cN k := by omega
    rw [e2, ← e]; exact c
theorem se_s {f f0 : Nat → Int32} {b k i : Int32} (h : SI f ∧ f 0 = f0 0 ∧ (0 ≤ Int32.toInt b → ∀ j, j < cN k → f (92 + j) ≠ b)) (ei : cN i = 92 + cN k) (hk : cN k < 10) : SI (upd f (cN i) (-1)) ∧ upd f (cN i) (-1) 0 = f0 0 ∧ (0 ≤ Int32.toInt b → ∀ j, j < cN k + 1 → upd f (cN i) (-1) (92 + j) ≠ b) := by
  refine ⟨by rw [ei]; exact si_se h.1 hk ⟨by decide, by decide⟩ (fun q => absurd q (by decide)), by rw [up_n (by omega)]; exact h.2.1, fun h0 j hj => ?_⟩
  by_cases q : j = cN k
  · rw [q, ← ei, pk_us]
    intro e
    rw [← e] at h0
    exact absurd h0 (by decide)
  · rw [up_n (by omega)]; exact h.2.2 h0 j (by omega)
theorem se_e {f f0 : Nat → Int32} {b k i a : Int32} (h : SI f ∧ f 0 = f0 0 ∧ (0 ≤ Int32.toInt b → ∀ j, j < cN k → f (92 + j) ≠ b)) (ei : cN i = 92 + cN a) (ha : cN a < 10) (rb : Rg (-1) 9 b) (hk : cN 10 ≤ cN k) : SI (upd f (cN i) b) ∧ upd f (cN i) b 0 = f0 0 := by
  have e10 : cN 10 = 10 := rfl
  refine ⟨by rw [ei]; exact si_se h.1 ha rb (fun h0 j hj _ => h.2.2 h0 j (by omega)), by rw [up_n (by omega)]; exact h.2.1⟩
