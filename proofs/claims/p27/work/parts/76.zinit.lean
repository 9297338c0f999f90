theorem in_yes {z y2 y3 : Int64} {a : Int32} {lo hi : Int} (e : z = a.toInt64) (r : Rg lo hi a) (h2 : y2.toInt = lo) (h3 : y3.toInt = hi) : y2.toInt ≤ z.toInt ∧ z.toInt ≤ y3.toInt := by
  rw [e, i64, h2, h3]; exact r
theorem mi_st {f : Nat → Int32} {k i : Int32} (h : (∀ j, j < cN k → f (92 + j) = -1) ∧ ∀ j, (j < 92 ∨ 102 ≤ j) → j < 133 → f j = 0) (ei : cN i = 92 + cN k) (hk : cN k < 10) : (∀ j, j < cN k + 1 → upd f (cN i) (-1) (92 + j) = -1) ∧ ∀ j, (j < 92 ∨ 102 ≤ j) → j < 133 → upd f (cN i) (-1) j = 0 := by
  refine ⟨fun j hj => ?_, fun j h1 h2 => by rw [up_n (by omega)]; exact h.2 j h1 h2⟩
  by_cases q : j = cN k
  · rw [q, ← ei, pk_us]
  · rw [up_n (by omega)]; exact h.1 j (by omega)
theorem mi_si {f : Nat → Int32} {k : Int32} (h : (∀ j, j < cN k → f (92 + j) = -1) ∧ ∀ j, (j < 92 ∨ 102 ≤ j) → j < 133 → f j = 0) (hk : cN 10 ≤ cN k) : SI f := by
  have e10 : cN 10 = 10 := rfl
  have z : ∀ j, (j < 92 ∨ 102 ≤ j) → j < 133 → f j = 0 := h.2
  have r0 : ∀ (hi : Int), 0 ≤ hi → Rg 0 hi 0 := fun hi hh => ⟨by decide, hh⟩
  have c0 : cN (f 0) = 0 := by rw [z 0 (by decide) (by decide)]; rfl
  refine ⟨?_, ?_, ?_, ?_, ?_, ?_, ?_, ?_, ?_, ?_, ?_, ?_, ?_, ?_⟩
  · rw [z 0 (by decide) (by decide)]; exact r0 _ (by decide)
  · rw [z 1 (by decide) (by decide)]; exact r0 _ (by decide)
  · rw [z 2 (by decide) (by decide)]; exact r0 _ (by decide)
  · rw [z 3 (by decide) (by decide)]; exact r0 _ (by decide)
  · rw [z 4 (by decide) (by decide)]; exact r0 _ (by decide)
  · rw [z 5 (by decide) (by decide)]; exact r0 _ (by decide)
  · rw [z 6 (by decide) (by decide)]; exact r0 _ (by decide)
  · intro i h1 h2; rw [z i (by omega) (by omega)]; exact ⟨by decide, by decide⟩
  · intro b hb hp; rw [z 0 (by decide) (by decide)] at hp; exact absurd hp (by decide)
  · intro i h1 h2
    have e : i = 92 + (i - 92) := by omega
    rw [e, h.1 _ (by omega)]; exact ⟨by decide, by decide⟩
  · intro i h1 h2; rw [z i (by omega) (by omega)]; exact r0 _ (by decide)
  · rw [z 132 (by decide) (by decide)]; exact r0 _ (by decide)
  · intro b c hb; rw [c0] at hb; exact absurd hb (Nat.not_lt_zero b)
  · intro j k2 h1 h2 hne hz
    rw [h.1 j (by omega)] at hz
    exact absurd hz (by decide)
theorem bk_z {g : Nat → Int32} (h : ∀ j, j < 65536 → Rg 0 0 (g j)) : ∀ j, j < 65536 → BK (g j) := by
  intro j hj
  have r := h j hj
  have e : g j = 0 := by
    apply Int32.toInt_inj.mp
    have := r.1; have := r.2
    have e0 : Int32.toInt 0 = 0 := rfl
    omega
  rw [e]; exact BK_0
theorem rg_0 {x : Int32} (r : Rg 0 0 x) : x = 0 := by
  apply Int32.toInt_inj.mp
  have := r.1; have := r.2
  have e0 : Int32.toInt 0 = 0 := rfl
  omega
