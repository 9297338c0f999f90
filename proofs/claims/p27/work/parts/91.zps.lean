theorem ps_nx {sta snx ste sma : Int32} {gln gsg : Nat → Int32} {kk p0 d : Nat} (h : PS sta snx ste sma gln gsg kk p0 d) : Rg 0 400 snx := ⟨h.2.1, by have := h.2.2.1; have := h.1.2; omega⟩
theorem PS.dm {sta snx ste sma : Int32} {gln gsg : Nat → Int32} {kk p0 d : Nat} (h : PS sta snx ste sma gln gsg kk p0 d) : d ≤ cN sma := h.2.2.2.2.2.2.2.1
theorem PS.te {sta snx ste sma : Int32} {gln gsg : Nat → Int32} {kk p0 d : Nat} (h : PS sta snx ste sma gln gsg kk p0 d) : Rg 0 5 ste := h.2.2.2.1
theorem PS.nl {sta snx ste sma : Int32} {gln gsg : Nat → Int32} {kk p0 d : Nat} (h : PS sta snx ste sma gln gsg kk p0 d) : snx.toInt ≤ sta.toInt := h.2.2.1
theorem see_lt {s n z u : Int32} {lo hi : Int} (h : ¬ u < 0 → n < s) (e : z = u) (r : Rg lo hi z) (h0 : 0 ≤ lo) : n < s := h (by rw [← e, i_lt]; have e0 : Int32.toInt 0 = 0 := rfl; have := r.1; omega)
theorem ixp {t z x y : Int32} {lo hi : Int} (e1 : x = 400 * t) (e2 : y = x + z) (rt : Rg 0 5 t) (rz : Rg lo hi z) (hh : 0 ≤ lo ∧ hi ≤ 100000) : cN y = 400 * cN t + cN z := by
  have et := cN_nI rt (by decide)
  have ez := cN_nI rz hh.1
  have h1 : cN t ≤ 5 := cN_le rt (by decide)
  have h2 := cN_i rz hh.1
  have := rz.2
  have e : y = nI (400 * cN t + cN z) := by rw [e2, e1, et, ez, show (400 : Int32) = nI 400 from rfl, pk_mul, nI_add, ← et, ← ez]
  exact cN_of e (by omega)
theorem n11 {s : Int32} {lo hi : Int} (r : Rg lo hi s) (h : 0 ≤ lo ∧ (hi < 11 ∨ 11 < lo)) : cN s ≠ 11 := by
  have h1 := cN_i r h.1
  have := r.1; have := r.2
  omega
theorem PS.eqs {sta snx ste sma : Int32} {gln gsg g2 l2 : Nat → Int32} {g l : Nat → Int32} {kk p0 d : Nat} (h : PS sta snx ste sma l g kk p0 d) (e1 : g2 = g) (e2 : l2 = l) : PS sta snx ste sma l2 g2 kk p0 d := by rw [e1, e2]; exact h
theorem KP.eqs {g0 l0 g l g2 l2 : Nat → Int32} {t : Nat} (h : KP g0 l0 g l t) (e1 : g2 = g) (e2 : l2 = l) : KP g0 l0 g2 l2 t := by rw [e1, e2]; exact h
