/-! ===== the reference: steps ===== -/
/-- an act by which a goal is as soon still -/
def STP (f g : Nat → Int32) (c x : Int32) : Prop := ¬ x < 0 → Rg 0 71 x ∧ ¬ blF f (cN c) (cN x) < 0 ∧ 0 ≤ (g (cN (blF f (cN c) (cN x)))).toInt ∧ g (cN (blF f (cN c) (cN x))) + tmF f (cN x) = g (cN c)
theorem bl_bh {f : Nat → Int32} {c t : Nat} (h : ¬ blF f c t < 0) : blF f c t = bhF f c t := by
  unfold blF at h ⊢
  split
  · rename_i q; rw [if_pos q] at h; exact absurd (by decide) h
  · rename_i q
    rw [if_neg q] at h
    split
    · rfl
    · rename_i q2; rw [if_neg q2] at h; exact absurd (by decide) h
theorem st_rg {f g : Nat → Int32} {c x : Int32} (r : Rg (-1) 71 x) (h : STP f g c x) (h0 : ¬ x < 0) : Rg 0 71 x := (h h0).1
theorem st_no {f g : Nat → Int32} {c : Int32} : STP f g c (-1) := fun h => absurd (by decide) h
theorem st_of {f g : Nat → Int32} {c t x z y k w : Int32} (rt : Rg 0 71 t) (ex : x = blF f (cN c) (cN t)) (hx : ¬ x < 0) (ez : z = g (cN x)) (hz : ¬ z < 0) (ey : y = tmF f (cN t)) (ek : k = g (cN x)) (ew : w = k + y) (v : Int32) (ev : v = g (cN c)) (hv : w = v) : STP f g c t := by
  intro _
  refine ⟨rt, by rw [← ex]; exact hx, ?_, ?_⟩
  · rw [← ex, ← ez]; rw [i_lt] at hz; have e0 : Int32.toInt 0 = 0 := rfl; omega
  · rw [← ex, ← ek, ← ey, ← ew, hv, ev]
theorem st_hun {f g : Nat → Int32} (hs : SI f) {c x : Int32} (h : STP f g c x) (h0 : ¬ x < 0) : cN x < 8 → bt (cN c % 256) (cN x) = 1 := by
  intro h8
  obtain ⟨-, h2, -⟩ := h h0
  exact (bh_un (bl_pos hs rfl h2).2 h8).2
theorem st_bk {f g : Nat → Int32} (hs : SI f) {c x y : Int32} (h : STP f g c x) (h0 : ¬ x < 0) (hy : y = bhF f (cN c) (cN x)) (hk : ¬ y < 0 → BK y) : BK y ∧ 0 < (f 0).toInt ∧ y = blF f (cN c) (cN x) := by
  obtain ⟨-, h2, -⟩ := h h0
  have h3 := bl_pos hs rfl h2
  exact ⟨hk (by rw [hy]; exact h3.2), h3.1, by rw [bl_bh h2]; exact hy⟩
theorem rem_lt {p q r : Int32} {hp hq : Int} (rp : Rg 0 hp p) (rq : Rg 1 hq q) (e : r = p - p / q * q) : cN r < cN q := by
  have ep := cN_nI rp (by decide)
  have eq := cN_nI rq (by decide)
  have hp2 := cN_31 p rp (by decide)
  have hq2 := cN_31 q rq (by decide)
  have h0 : 0 < cN q := by have := cN_i rq (by decide); have := rq.1; omega
  have e2 : r = nI (cN p % cN q) := by rw [e, ep, eq, pk_rem hp2 h0 hq2, ← ep, ← eq]
  have := Nat.mod_lt (cN p) h0
  rw [cN_of e2 (by omega)]; exact this
/-- what a child's way takes, so far -/
def CHI (g : Nat → Int32) (c s : Int32) : Prop := 0 ≤ s.toInt ∧ s.toInt + 9 * (g (cN c)).toInt ≤ 59572224 ∧ 0 ≤ (g (cN c)).toInt
theorem ch_0 {g : Nat → Int32} (h : FAR g) {c z : Int32} (r : Rg 0 65535 c) (e : z = g (cN c)) (hz : 0 ≤ z) : CHI g c 0 := by
  have r2 := h.rg r (by decide)
  rw [← e] at r2
  rw [i_le] at hz
  have e0 : Int32.toInt 0 = 0 := rfl
  have := r2.2
  refine ⟨by decide, ?_, ?_⟩
  · rw [← e, e0]; omega
  · rw [← e]; omega
theorem ch_s {f g : Nat → Int32} (hs : SI f) (hF : FAR g) {c x y s t m p s2 : Int32} (hy : BK y) (h : CHI g c s) (hf : STP f g c x) (h0 : ¬ x < 0) (ey : y = blF f (cN c) (cN x)) (et : t = tmF f (cN x)) (rm : Rg 1 9 m) (ep : p = t * m) (es : s2 = s + p) : CHI g y s2 ∧ (g (cN y)).toInt.toNat < (g (cN c)).toInt.toNat ∧ Rg 0 2147483647 s2 := by
  obtain ⟨h1, h2, h3⟩ := h
  obtain ⟨r1, r2, r3, r4⟩ := hf h0
  rw [← ey, ← et] at r4
  rw [← ey] at r3
  have rt : Rg 1 40 t := by rw [et]; exact tm_rg hs (bl_pos hs rfl r2).1 (cN_lt (n := 72) r1 (by decide))
  have ra : Rg 0 6619136 (g (cN y)) := by
    exact ⟨r3, (hF.rg hy.1 (by decide)).2⟩
  have e1 := Rg.addE r4.symm ra rt (by decide)
  have rp : Rg 0 360 p := Rg.mul (ha := 40) (hb := 9) ep (rt.wk (by decide)) (rm.wk (by decide)) (by decide)
  have em : p.toInt = t.toInt * m.toInt := t_mul ep (by have := rt.1; have := rm.1; have := Int.mul_nonneg (a := t.toInt) (b := m.toInt) (by omega) (by omega); omega) (by have h5 := Int.mul_le_mul (a := t.toInt) (b := m.toInt) (c := 40) (d := 9) rt.2 rm.2 (by have := rm.1; omega) (by decide); omega)
  have h9 : p.toInt ≤ 9 * t.toInt := by
    rw [em, Int.mul_comm]
    exact Int.mul_le_mul_of_nonneg_right rm.2 (by have := rt.1; omega)
  have rs : Rg 0 59572224 s := ⟨h1, by omega⟩
  have e2 := Rg.addE es rs rp (by decide)
  have := rt.1; have := rp.1
  exact ⟨⟨by omega, by omega, r3⟩, by omega, ⟨by omega, by omega⟩⟩
