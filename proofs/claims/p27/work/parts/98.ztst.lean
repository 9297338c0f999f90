theorem str_12 {s y : Int32} (e : y = nI (strF s)) (r : Rg 12 13 s) : Rg 1 2 y := by
  have h1 := r.1; have h2 := r.2
  have h3 : s.toInt = 12 ∨ s.toInt = 13 := by omega
  rcases h3 with q | q
  · have q2 : s = 12 := Int32.toInt_inj.mp q
    rw [e, q2]; exact ⟨by decide, by decide⟩
  · have q2 : s = 13 := Int32.toInt_inj.mp q
    rw [e, q2]; exact ⟨by decide, by decide⟩
theorem ao_12 {s : Int32} (r : Rg 12 13 s) : ao1 s = 1 := by
  have h1 := r.1; have h2 := r.2
  have h3 : s.toInt = 12 ∨ s.toInt = 13 := by omega
  rcases h3 with q | q
  · have q2 : s = 12 := Int32.toInt_inj.mp q
    rw [q2]; rfl
  · have q2 : s = 13 := Int32.toInt_inj.mp q
    rw [q2]; rfl
theorem ps_sod1 {sta snx ste sma sod : Int32} {gln gsg : Nat → Int32} {p0 d : Nat} (h : PS sta snx ste sma gln gsg (cN sod + 1) p0 d) (r : Rg 0 400 sod) : Rg 0 399 sod := by
  obtain ⟨h1, h2, h3, h4, h5, h6, h7, h8, h9⟩ := h
  have := cN_i r (by decide)
  have := h1.2
  exact ⟨r.1, by omega⟩
