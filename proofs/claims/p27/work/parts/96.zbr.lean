theorem in_ge1 {g : Nat → Int32} {n : Nat} {s2 : Int32} (h : NPP g n (cN s2) (cN 1)) (hk : ∃ k, k < n ∧ g k = 91) (r : Rg 0 400 s2) : Rg 1 400 s2 := by
  obtain ⟨k, h1, h2⟩ := hk
  have h3 := h.2 k h1 (by rw [h2]; decide)
  have h4 := cN_i r (by decide)
  exact ⟨by omega, r.2⟩
theorem cl_pop {g : Nat → Int32} {s2 s3 : Int32} {lo hi : Int} (h : cN s2 = 0 ∨ strF (g (cN s2 - 1)) < cN 1) (e : s3 = s2 - 1) (r : Rg lo hi s2) (hl : 1 ≤ lo) : cN s2 = cN s3 + 1 ∧ 1 + CAO g (cN s2) = 1 + CAO g (cN s3) := by
  have h1 := cN_dec e r hl
  refine ⟨h1, ?_⟩
  have e1 : cN 1 = 1 := rfl
  rcases h with q | q
  · omega
  · rw [h1, Nat.add_sub_cancel, e1] at q
    rw [h1, CAO_s, ao_0 (by omega), Nat.add_zero]
theorem ps_sod {sta snx ste sma sod : Int32} {gln gsg : Nat → Int32} {p0 d : Nat} (h : PS sta snx ste sma gln gsg (cN sod + 0) p0 d) (hl : snx < sta) (r : Rg 0 400 sod) : Rg 0 399 sod := by
  obtain ⟨h1, h2, h3, h4, h5, h6, h7, h8, h9⟩ := h
  rw [i_lt] at hl
  have := cN_i r (by decide)
  have := h1.2
  exact ⟨r.1, by omega⟩
theorem op_cao {g g2 : Nat → Int32} {sod s2 a : Int32} {lo hi : Int} (e1 : g2 = upd g (cN sod) a) (e2 : s2 = sod + 1) (r : Rg lo hi sod) (hl : 0 ≤ lo ∧ hi ≤ 400) : cN s2 = cN sod + 1 ∧ CAO g2 (cN s2) = CAO g (cN sod) + ao1 a := by
  have h1 : cN s2 = cN sod + 1 := cN_add (k := 1) e2 r (Rg.c rfl) ⟨hl.1, by omega⟩
  refine ⟨h1, ?_⟩
  rw [h1, CAO_s, e1, CAO_u, pk_us]
theorem fa_re {sta snx ste sma : Int32} {gln gsg : Nat → Int32} {kk p0 d : Nat} (h : PS sta snx ste sma gln gsg kk p0 (d + 1)) : PS sta snx ste sma gln gsg kk p0 (1 + d) := h.re rfl (Nat.add_comm _ _)
theorem m_one {m : Int32} (r : Rg 0 1 m) (h : ¬ m = 0) : cN m = 1 := by
  have h1 := cN_i r (by decide)
  have h2 := r.2
  have h3 : m.toInt ≠ 0 := fun q => h (Int32.toInt_inj.mp q)
  have := r.1
  omega
