theorem lt_first {g : Nat → Int32} {s nx n k : Int32} {hi : Int} (h : 0 < n.toInt → LT g s nx) (hk : LT g s k) (ek : k = nx + n) (rn : Rg 0 hi n) : LT g s nx := by
  rcases Int.lt_or_le 0 n.toInt with q | q
  · exact h q
  · have e : n = 0 := by
      apply Int32.toInt_inj.mp
      have e0 : Int32.toInt 0 = 0 := rfl
      have := rn.1; omega
    rw [e] at ek
    have e2 : k = nx := by
      rw [ek]
      apply Int32.toInt_inj.mp
      rw [Int32.toInt_add, show Int32.toInt 0 = 0 from rfl, Int.add_zero]
      exact t_wrap (Rg.top nx).1 (Rg.top nx).2
    rw [← e2]; exact hk
theorem n_399 {nx n k : Int32} {hk : Int} (ek : k = nx + n) (rx : Rg 0 400 nx) (rn : Rg 0 400 n) (rk : Rg 0 hk k) (h : hk ≤ 399) : Rg 0 399 n := by
  have e := Rg.addE ek rx rn (by decide)
  have := rx.1; have := rk.2
  exact ⟨rn.1, by omega⟩
theorem NX.rf {s a : Int32} (h : a.toInt ≤ s.toInt) : NX s a a := ⟨Int.le_refl _, h⟩
theorem NX.in {s a b c : Int32} {lo hi : Int} (h : NX s a b) (e : c = b + 1) (r : Rg lo hi b) (hl : b < s) (hh : hi ≤ 2147483646 ∧ -2147483648 ≤ lo := by decide) : NX s a c := by
  have t := Rg.addE e r (Rg.c (c := 1) (k := 1) rfl) ⟨by omega, by omega⟩
  have e1 : Int32.toInt 1 = 1 := rfl
  rw [i_lt] at hl
  exact ⟨by have := h.1; omega, by omega⟩
theorem NX.st {s a b c : Int32} {lo hi : Int} (h : NX s a b) (e : c = b + 1) (r : Rg lo hi b) (hl : b < s) (hh : hi ≤ 2147483646 ∧ -2147483648 ≤ lo := by decide) : a.toInt < c.toInt ∧ c.toInt ≤ s.toInt := by
  have t := Rg.addE e r (Rg.c (c := 1) (k := 1) rfl) ⟨by omega, by omega⟩
  have e1 : Int32.toInt 1 = 1 := rfl
  rw [i_lt] at hl
  exact ⟨by have := h.1; omega, by omega⟩
theorem NX.rg {s a b : Int32} {lo hi lo2 hi2 : Int} (h : NX s a b) (ra : Rg lo hi a) (rs : Rg lo2 hi2 s) (hh : 0 ≤ lo ∧ hi2 ≤ 400 := by decide) : Rg 0 400 b := ⟨by have := h.1; have := ra.1; omega, by have := h.2; have := rs.2; omega⟩
theorem pw_end {g : Nat → Int32} {s a b : Int32} (h : NX s a b) (hn : ¬ LT g s b) : LT g s a → a.toInt < b.toInt := by
  intro h2
  rcases Int.lt_or_le a.toInt b.toInt with q | q
  · exact q
  · exfalso
    have e : b = a := Int32.toInt_inj.mp (by have := h.1; omega)
    rw [e] at hn
    exact hn h2
theorem nh_1 {g : Nat → Int32} {s a b : Int32} (h : NX s a b) (hn : ¬ DG g s b) : DG g s a → a.toInt < b.toInt := by
  intro h2
  rcases Int.lt_or_le a.toInt b.toInt with q | q
  · exact q
  · exfalso
    have e : b = a := Int32.toInt_inj.mp (by have := h.1; omega)
    rw [e] at hn
    exact hn h2
/-- a blank lies there -/
def BL (g : Nat → Int32) (s n : Int32) : Prop := n < s ∧ g (cN n) = 32
theorem bl_ge {g : Nat → Int32} {s n : Int32} (c : s ≤ n) : ¬ BL g s n := fun h => i_C2 c h.1
theorem bl_ne {g : Nat → Int32} {s n z : Int32} (e : z = g (cN n)) (c : ¬ z = 32) : ¬ BL g s n := fun h => c (e.trans h.2)
theorem lt_nb {g : Nat → Int32} {s n : Int32} (h : LT g s n) : ¬ BL g s n := fun q => h.2.1 (by rw [q.2]; decide)
