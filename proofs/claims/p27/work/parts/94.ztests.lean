/-! ===== the reference: tests ===== -/
def strF (s : Int32) : Nat := if s = 13 then 1 else if s = 12 then 2 else if s = 11 then 3 else 0
theorem str_rg (s : Int32) : Rg 0 3 (nI (strF s)) := by
  unfold strF
  split
  · exact nI_r (by decide) (by decide)
  · split
    · exact nI_r (by decide) (by decide)
    · split
      · exact nI_r (by decide) (by decide)
      · exact nI_r (by decide) (by decide)
theorem str_le (s : Int32) : strF s ≤ 3 := by
  unfold strF; split
  · decide
  · split
    · decide
    · split <;> decide
theorem str_3 {s : Int32} (h : 1 ≤ strF s) : s = 11 ∨ s = 12 ∨ s = 13 := by
  unfold strF at h
  split at h
  · rename_i q; exact Or.inr (Or.inr q)
  · split at h
    · rename_i q; exact Or.inr (Or.inl q)
    · split at h
      · rename_i q; exact Or.inl q
      · omega
def ao1 (s : Int32) : Nat := if s = 12 ∨ s = 13 then 1 else 0
def CAO (g : Nat → Int32) (n : Nat) : Nat := smN (fun j => ao1 (g j)) n
theorem CAO_s (g : Nat → Int32) (n : Nat) : CAO g (n + 1) = CAO g n + ao1 (g n) := rfl
theorem CAO_u {g : Nat → Int32} {n : Nat} {v : Int32} : CAO (upd g n v) n = CAO g n := sm_same (fun j hj => by show ao1 (upd g n v j) = ao1 (g j); rw [up_n (by omega)])
theorem ao_0 {s : Int32} (h : ¬ 1 ≤ strF s) : ao1 s = 0 := by
  unfold ao1
  rw [if_neg]
  rintro (q | q) <;> (rw [q] at h; exact h (by decide))
theorem PS.re {sta snx ste sma : Int32} {gln gsg : Nat → Int32} {kk p0 d k2 d2 : Nat} (h : PS sta snx ste sma gln gsg kk p0 d) (e1 : kk = k2) (e2 : d = d2) : PS sta snx ste sma gln gsg k2 p0 d2 := by rw [← e1, ← e2]; exact h
theorem st_pop {g : Nat → Int32} {sod s2 x : Int32} (ex : x = g (cN s2)) (e : cN sod = cN s2 + 1) (h : 1 ≤ strF x) : stp (x + 16 * 0) (1 + CAO g (cN sod)) = some (1 + CAO g (cN s2)) := by
  rw [e, CAO_s, ← ex]
  rcases str_3 h with q | q | q
  · have ea : ao1 x = 0 := by rw [q]; rfl
    rw [ea, Nat.add_zero]
    exact stp_11 q rfl rfl (by omega)
  · have ea : ao1 x = 1 := by rw [q]; rfl
    rw [ea, ← Nat.add_assoc]
    exact stp_b (s := x) (d := 1 + CAO g (cN s2) + 1) (by rw [q]; exact ⟨by decide, by decide⟩) (by rw [q]; decide) rfl rfl (by omega)
  · have ea : ao1 x = 1 := by rw [q]; rfl
    rw [ea, ← Nat.add_assoc]
    exact stp_b (s := x) (d := 1 + CAO g (cN s2) + 1) (by rw [q]; exact ⟨by decide, by decide⟩) (by rw [q]; decide) rfl rfl (by omega)
theorem cN_dec {a b : Int32} {lo hi : Int} (e : b = a - 1) (r : Rg lo hi a) (h : 1 ≤ lo) : cN a = cN b + 1 := by
  have ea := cN_nI r (by omega)
  have h1 := cN_i r (by omega)
  have := r.1
  have h31 := cN_31 a r (by omega)
  have e2 : b = nI (cN a - 1) := by rw [e, ea, show (1 : Int32) = nI 1 from rfl, pk_sub (by omega), ← ea]
  rw [cN_of e2 (by omega)]; omega
/-- never past an entry of less strength -/
def NPP (g : Nat → Int32) (n n2 l : Nat) : Prop := n2 ≤ n ∧ ∀ k, k < n → strF (g k) < l → k < n2
theorem NPP.rf {g : Nat → Int32} {n l : Nat} : NPP g n n l := ⟨Nat.le_refl _, fun _ h _ => h⟩
theorem NPP.st {g : Nat → Int32} {n m m2 l : Nat} (h : NPP g n m l) (e : m = m2 + 1) (hs : ¬ strF (g m2) < l) : NPP g n m2 l := by
  refine ⟨by have := h.1; omega, fun k hk hl => ?_⟩
  have h1 := h.2 k hk hl
  rcases Nat.lt_or_ge k m2 with q | q
  · exact q
  · have e2 : k = m2 := by omega
    rw [e2] at hl; exact absurd hl hs
theorem str_ge {x y a : Int32} {hi : Int} (e : y = nI (strF x)) (c : ¬ y < a) (r : Rg 1 hi a) : ¬ strF x < cN a := by
  have h := str_le x
  have h1 := cN_i r (by decide)
  rw [i_lt, e, nI_toInt (by omega)] at c
  omega
theorem str_lt {x y a : Int32} {hi : Int} (e : y = nI (strF x)) (c : y < a) (r : Rg 1 hi a) : strF x < cN a := by
  have h := str_le x
  have h1 := cN_i r (by decide)
  rw [i_lt, e, nI_toInt (by omega)] at c
  omega
theorem le0 {s : Int32} {lo hi : Int} (c : s ≤ 0) (r : Rg lo hi s) : cN s = 0 := by
  rw [i_le] at c
  have e0 : Int32.toInt 0 = 0 := rfl
  exact Int.toNat_eq_zero.mpr (by omega)
