/-! ===== the reference: codes are reckoned out ===== -/
def RNd (g : Nat → Int32) (a b h i t : Int32) : Prop := cN b ≤ cN i ∧ cN i ≤ cN h ∧ Rg 0 60 t ∧ runD g (400 * cN a + cN b) (cN i - cN b) = some (cN t)
def RDx (g : Nat → Int32) (a b h : Int32) : Prop := ∃ d, 1 ≤ d ∧ RD g (400 * cN a + cN b) (400 * cN a + cN h) d
theorem RNd.nil {g : Nat → Int32} {a b h : Int32} (hd : RDx g a b h) : RNd g a b h b 0 := by
  obtain ⟨d, _, h1, h2⟩ := hd
  exact ⟨Nat.le_refl _, by omega, ⟨by decide, by decide⟩, by rw [Nat.sub_self]; rfl⟩
theorem RNd.ix {a i x z : Int32} (ra : Rg 0 5 a) (ri : Rg 0 399 i) (e1 : x = 400 * a) (e2 : z = x + i) : cN z = 400 * cN a + cN i ∧ Rg 0 2399 z := by
  have ea := cN_nI ra (by decide)
  have ei := cN_nI ri (by decide)
  have h1 : cN a ≤ 5 := cN_le ra (by decide)
  have h2 : cN i ≤ 399 := cN_le ri (by decide)
  have e : z = nI (400 * cN a + cN i) := by rw [e2, e1, ea, ei, show (400 : Int32) = nI 400 from rfl, pk_mul, nI_add, ← ea, ← ei]
  have ec : cN z = 400 * cN a + cN i := cN_of e (by omega)
  refine ⟨ec, ?_⟩
  rw [e]
  exact nI_r (by omega) (by omega)
theorem RNd.lt {a b h i t : Int32} {g : Nat → Int32} {lo hi : Int} (hn : RNd g a b h i t) (hi' : i < h) (ri : Rg lo hi i) (h0 : 0 ≤ lo) (rh : Rg 0 400 h) : Rg 0 399 i := by
  rw [i_lt] at hi'
  exact ⟨by have := ri.1; omega, by have := rh.2; omega⟩
theorem RNd.at {g : Nat → Int32} {a b h i t : Int32} (hn : RNd g a b h i t) (hd : RDx g a b h) (hi' : i < h) (ri : Rg 0 400 i) (rh : Rg 0 400 h) : ∃ e, stp (g (400 * cN a + cN i)) (cN t) = some e ∧ runD g (400 * cN a + cN b) (cN i - cN b + 1) = some e := by
  obtain ⟨n1, n2, n3, n4⟩ := hn
  obtain ⟨d, d1, d2, d3⟩ := hd
  have hl := lt_cN hi' ri rh (by decide)
  obtain ⟨e, he⟩ := runD_pre _ _ d3 (cN i - cN b + 1) (by omega)
  obtain ⟨e2, h1, h2⟩ := runD_st he
  rw [n4] at h1
  have q := Option.some.inj h1
  rw [← q, show 400 * cN a + cN b + (cN i - cN b) = 400 * cN a + cN i by omega] at h2
  exact ⟨e, h2, he⟩
theorem RNd.st {g : Nat → Int32} {a b h i t i2 t2 : Int32} {e : Nat} (hn : RNd g a b h i t) (hi' : i < h) (ri : Rg 0 400 i) (rh : Rg 0 400 h) (he : runD g (400 * cN a + cN b) (cN i - cN b + 1) = some e) (ei : cN i2 = cN i + 1) (r2 : Rg 0 60 t2) (et : cN t2 = e) : RNd g a b h i2 t2 := by
  obtain ⟨n1, n2, n3, n4⟩ := hn
  have hl := lt_cN hi' ri rh (by decide)
  refine ⟨by omega, by omega, r2, ?_⟩
  rw [ei, show cN i + 1 - cN b = cN i - cN b + 1 by omega, et]
  exact he
theorem RNd.end {g : Nat → Int32} {a b h i t : Int32} {lo hi : Int} (hn : RNd g a b h i t) (hd : RDx g a b h) (hi' : h ≤ i) (ri : Rg lo hi i) (h0 : 0 ≤ lo) (rh : Rg 0 400 h) : Rg 1 60 t := by
  obtain ⟨n1, n2, n3, n4⟩ := hn
  obtain ⟨d, d1, d2, d3⟩ := hd
  have hl := le_cN hi' rh ri ⟨by decide, h0⟩
  have e : cN i = cN h := by omega
  rw [e] at n4
  rw [show 400 * cN a + cN h - (400 * cN a + cN b) = cN h - cN b by omega, n4] at d3
  have q := Option.some.inj d3
  have ht := cN_i n3 (by decide)
  exact ⟨by omega, n3.2⟩
theorem sg_and {x s : Int32} (e : s = x &&& 15) (h : ¬ x < 0) : s = nI (cN x % 16) := by
  have e0 : Int32.toInt 0 = 0 := rfl
  rw [i_lt] at h
  have r : Rg 0 2147483647 x := ⟨by omega, (Rg.top x).2⟩
  have ex := cN_nI r (by decide)
  have h1 := cN_31 x r (by decide)
  have h3 := pk_andN (n := cN x) (m := 15) (by omega) 4 rfl
  rw [← ex] at h3
  exact e.trans h3
theorem sg_shr {x v : Int32} (e : v = x >>> ((4 : Int32) &&& 31)) (h : ¬ x < 0) : v = nI (cN x / 16) := by
  have e0 : Int32.toInt 0 = 0 := rfl
  rw [i_lt] at h
  have r : Rg 0 2147483647 x := ⟨by omega, (Rg.top x).2⟩
  have ex := cN_nI r (by decide)
  have h1 := cN_31 x r (by decide)
  have h3 := pk_shrN (n := cN x) (by omega) ((4 : Int32) &&& 31) 4 rfl
  rw [← ex] at h3
  exact e.trans h3
theorem sg_ne {x s : Int32} {k : Nat} {kk : Int32} (e : s = nI (cN x % 16)) (ek : kk = nI k) (hk : k < 16) (c : ¬ s = kk) : cN x % 16 ≠ k := by
  intro q; rw [q] at e; exact c (e.trans ek.symm)
theorem sg_eq {x s : Int32} {k : Nat} {kk : Int32} (e : s = nI (cN x % 16)) (ek : kk = nI k) (hk : k < 16) (c : s = kk) : cN x % 16 = k := by
  have h1 : nI (cN x % 16) = nI k := e.symm.trans (c.trans ek)
  exact (nI_eq (by omega) (by omega)).mp h1
theorem st_pos {x : Int32} {d e : Nat} (h : stp x d = some e) : ¬ x < 0 := by
  intro q; unfold stp at h; rw [if_pos q] at h; exact absurd h (by simp)
theorem st_s0 {x s : Int32} {d e : Nat} (h : stp x d = some e) (es : s = x &&& 15) (c : s = 0) : d < 60 ∧ e = d + 1 := by
  have hp := st_pos h
  have q := sg_eq (k := 0) (sg_and es hp) rfl (by decide) c
  unfold stp at h
  rw [if_neg hp, if_pos q] at h
  split at h
  · exact ⟨by assumption, (Option.some.inj h).symm⟩
  · exact absurd h (by simp)
theorem st_s1 {x s v : Int32} {d e : Nat} (h : stp x d = some e) (es : s = x &&& 15) (ev : v = x >>> ((4 : Int32) &&& 31)) (c : s = 1) : d < 60 ∧ e = d + 1 ∧ Rg 0 11 v := by
  have hp := st_pos h
  have q := sg_eq (k := 1) (sg_and es hp) rfl (by decide) c
  have hv := sg_shr ev hp
  unfold stp at h
  rw [if_neg hp, if_neg (by omega), if_pos q] at h
  split at h
  · rename_i k; exact ⟨k.1, (Option.some.inj h).symm, by rw [hv]; exact nI_r (by omega) (by omega)⟩
  · exact absurd h (by simp)
theorem st_s11 {x s : Int32} {d e : Nat} (h : stp x d = some e) (es : s = x &&& 15) (c : s = 11) : 1 ≤ d ∧ e = d := by
  have hp := st_pos h
  have q := sg_eq (k := 11) (sg_and es hp) rfl (by decide) c
  unfold stp at h
  rw [if_neg hp, if_neg (by omega), if_neg (by omega), if_pos q] at h
  split at h
  · exact ⟨by assumption, (Option.some.inj h).symm⟩
  · exact absurd h (by simp)
theorem st_sb {x s : Int32} {d e : Nat} (h : stp x d = some e) (es : s = x &&& 15) (c0 : ¬ s = 0) (c1 : ¬ s = 1) (c2 : ¬ s = 11) : 2 ≤ d ∧ e = d - 1 := by
  have hp := st_pos h
  have ea := sg_and es hp
  unfold stp at h
  rw [if_neg hp, if_neg (sg_ne (k := 0) ea rfl (by decide) c0), if_neg (sg_ne (k := 1) ea rfl (by decide) c1), if_neg (sg_ne (k := 11) ea rfl (by decide) c2)] at h
  split at h
  · exact ⟨by assumption, (Option.some.inj h).symm⟩
  · exact absurd h (by simp)
theorem t_rg {t : Int32} {lo : Nat} (r : Rg 0 60 t) (h : lo ≤ cN t) : Rg (lo : Int) 60 t := by
  have := cN_i r (by decide)
  exact ⟨by omega, r.2⟩
theorem t_59 {t : Int32} (r : Rg 0 60 t) (h : cN t < 60) : Rg 0 59 t := by
  have := cN_i r (by decide)
  exact ⟨r.1, by omega⟩
/-- the clauses of a rule -/
def RCV (g c s : Nat → Int32) (a : Int32) : Prop := Rg 0 12 (s (cN a)) ∧ CV g c (cN a) (cN (s (cN a))) 400
theorem RV.rcv {g c s : Nat → Int32} {r a : Int32} {lo hi : Int} (h : RV g c s (cN r)) (ha : a < r) (ra : Rg 0 5 a) (rr : Rg lo hi r) (h0 : 0 ≤ lo) : RCV g c s a := h _ (lt_cN ha ra rr ⟨by decide, h0⟩)
theorem CW.c2 {g c : Nat → Int32} {t i L : Nat} (h : CW g c t i L) : Rg (-1) 400 (c (i + 2)) := h.2.2.2.2.1
theorem CW.neg {g c : Nat → Int32} {t i L : Nat} {z : Int32} (h : CW g c t i L) (e : z = c (i + 2)) (q : ¬ z < 0) : Rg 0 400 (c (i + 2)) ∧ Rg 0 400 (c (i + 3)) ∧ ∃ d, 1 ≤ d ∧ RD g (400 * t + cN (c (i + 2))) (400 * t + cN (c (i + 3))) d := by
  rw [e] at q
  obtain ⟨q1, q2, q3⟩ := h.2.2.2.2.2 q
  have e0 : Int32.toInt 0 = 0 := rfl
  have h2 := h.c2
  rw [i_lt] at q
  exact ⟨⟨by omega, h2.2⟩, q1, q3⟩
theorem ix48n {t n a b y : Int32} {N : Int32} {hi : Int} (rt : Rg 0 5 t) (hn : n < N) (rn : Rg 0 12 n) (rN : Rg 0 hi N) (hh : hi ≤ 12) (e1 : a = 48 * t) (e2 : b = 4 * n) (e3 : y = a + b) : cN y = 48 * cN t + 4 * cN n ∧ Rg 0 284 y ∧ cN n < cN N := by
  have hl := lt_cN hn rn rN (by decide)
  have r2 : Rg 0 11 n := by
    rw [i_lt] at hn
    exact ⟨rn.1, by have := rN.2; omega⟩
  exact ⟨(ix48 rt r2 e1 e2 e3).1, (ix48 rt r2 e1 e2 e3).2, hl⟩
theorem is_rule {a r : Int32} {lo hi : Int} (h1 : ¬ a < 0) (h2 : a < r) (rr : Rg lo hi r) (hh : hi ≤ 6) : Rg 0 5 a := by
  rw [i_lt] at h1 h2
  have e0 : Int32.toInt 0 = 0 := rfl
  exact ⟨by omega, by have := rr.2; omega⟩
