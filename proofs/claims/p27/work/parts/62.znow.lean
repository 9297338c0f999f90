/-! ===== the reference: how it is now ===== -/
theorem mx_t {x y : Int32} {p q : Nat} (ex : x = nI p) (ey : y = nI q) (c : x ≤ y) (hp : p < 2 ^ 31) (hq : q < 2 ^ 31) : y = nI (max p q) := by
  rw [ex, ey, nI_leI hp hq] at c
  rw [ey, Nat.max_eq_right c]
theorem mx_f {x y : Int32} {p q : Nat} (ex : x = nI p) (ey : y = nI q) (c : ¬ x ≤ y) (hp : p < 2 ^ 31) (hq : q < 2 ^ 31) : x = nI (max p q) := by
  rw [ex, ey, nI_leI hp hq] at c
  rw [ex, Nat.max_eq_left (by omega)]
theorem rn_1 {f : Nat → Int32} {i b : Nat} (h : bt i b = 1) : (0 : Int32) = nI (if bt i b = 1 then 0 else (runF i b).1 + 1) := by rw [if_pos h]; rfl
theorem rn_0 {x n : Int32} {i b : Nat} (h : bt i b = 0) (en : n = nI (runF i b).1) (e : x = n + 1) : x = nI (if bt i b = 1 then 0 else (runF i b).1 + 1) := by
  rw [if_neg (by omega), e, en, nI_succ]
theorem rn_b (i b : Nat) (hb : b < 8) : (if bt i b = 1 then 0 else (runF i b).1 + 1) < 2 ^ 31 ∧ (runF i b).2 < 2 ^ 31 ∧ (if bt i b = 1 then 0 else (runF i b).1 + 1) ≤ 8 ∧ max (if bt i b = 1 then 0 else (runF i b).1 + 1) (runF i b).2 ≤ 8 := by
  have h := run_le i b
  have h1 : (if bt i b = 1 then 0 else (runF i b).1 + 1) ≤ 8 := by split <;> omega
  exact ⟨by omega, by omega, h1, Nat.max_le.mpr ⟨h1, by omega⟩⟩
theorem run_rg {f : Nat → Int32} (h : SI f) (i : Nat) : Rg 0 8 (nI (runF i (cN (f 0))).2) := by
  have h1 := (run_le i (cN (f 0))).2
  have h2 : cN (f 0) ≤ 8 := cN_le h.a0 (by decide)
  exact nI_r (by omega) (by omega)
theorem bt_add : ∀ n, n < 256 → ∀ k, k < 8 → bt n k = 0 → ∀ j, j < 8 → bt (n + 2 ^ k) j = if j = k then 1 else bt n j := by decide +kernel
def SIT (f : Nat → Int32) (b : Nat) (n : Int32) : Prop := BK n ∧ (∀ j, b ≤ j → j < 8 → bt (cN n % 256) j = 0) ∧ (∀ k, k < 8 → bt (cN n / 256) k = 1 → ∃ j, j < b ∧ f (10 + j) = nI k) ∧ ∀ j, j < b → 0 ≤ (f (10 + j)).toInt → bt (cN n / 256) (cN (f (10 + j))) = 1
theorem bt_00 (k : Nat) : bt 0 k = 0 := by unfold bt; rw [Nat.zero_div]
theorem SIT_0 (f : Nat → Int32) : SIT f (cN 0) 0 := ⟨BK_0, fun j _ _ => bt_00 j, fun k _ h => by rw [show cN 0 / 256 = 0 from rfl, bt_00] at h; exact absurd h (by decide), fun j hj => absurd hj (Nat.not_lt_zero j)⟩
theorem SIT_n {f : Nat → Int32} {b n z : Int32} (h : SIT f (cN b) n) (ez : z = f (10 + cN b)) (c : z < 0) : SIT f (cN b + 1) n := by
  obtain ⟨h1, h2, h3, h4⟩ := h
  refine ⟨h1, fun j hj => h2 j (by omega), fun k hk hb => ?_, fun j hj hz => ?_⟩
  · obtain ⟨j, hj, e⟩ := h3 k hk hb
    exact ⟨j, by omega, e⟩
  · rcases Nat.lt_or_ge j (cN b) with q | q
    · exact h4 j q hz
    · have e : j = cN b := by omega
      rw [e, ← ez] at hz
      rw [i_lt] at c
      have e0 : Int32.toInt 0 = 0 := rfl
      omega
theorem SIT_s {f : Nat → Int32} {b n z z2 x y w v : Int32} (hs : SI f) (h : SIT f (cN b) n) (rb : Rg 0 7 b) (hb0 : cN b < cN (f 0)) (ez : z = f (10 + cN b)) (c : ¬ z < 0) (ez2 : z2 = f (10 + cN b)) (e1 : x = (1 : Int32) <<< (b &&& 31)) (e2 : y = (256 : Int32) <<< (z2 &&& 31)) (e3 : w = x ||| y) (e4 : v = n ||| w) : SIT f (cN b + 1) v := by
  obtain ⟨h1, h2, h3, h4⟩ := h
  have hb8 : cN b < 8 := cN_lt rb (by decide)
  have rz : Rg (-1) 7 z := by rw [ez]; exact hs.at_in _ (by omega) (by omega)
  have e22 : z2 = z := ez2.trans ez.symm
  rw [e22] at e2
  have r0 : Rg 0 7 z := ⟨by rw [i_lt] at c; have e0 : Int32.toInt 0 = 0 := rfl; omega, rz.2⟩
  have hz8 : cN z < 8 := cN_lt r0 (by decide)
  have hf : bt (cN n / 256) (cN z) = 0 := by
    have hl := bt_lt (cN n / 256) (cN z)
    rcases Nat.eq_zero_or_pos (bt (cN n / 256) (cN z)) with q | q
    · exact q
    · exfalso
      obtain ⟨j, hj, e⟩ := h3 (cN z) hz8 (by omega)
      rw [← cN_nI r0 (by decide)] at e
      refine hs.inj (cN b) j hb0 (by omega) (by omega) (by rw [← ez]; exact r0.1) ?_
      rw [← ez, e]
  have hi := h2 (cN b) (Nat.le_refl _) hb8
  have hv : v = (n ||| x) ||| y := by
    rw [e4, e3]
    apply Int32.toBitVec_inj.1
    show n.toBitVec ||| (x.toBitVec ||| y.toBitVec) = n.toBitVec ||| x.toBitVec ||| y.toBitVec
    rw [BitVec.or_assoc]
  obtain ⟨-, k2, k3⟩ := jn_x h1 rb r0 hi hf e1 rfl e2 hv
  have n2 : cN n < 65536 := cN_lt h1.1 (by decide)
  obtain ⟨-, -, g3⟩ := or_all (cN n % 256) (by omega) (cN b) hb8 hi
  have m1 : cN v % 256 = cN n % 256 + 2 ^ cN b := by
    rw [k3]
    generalize 2 ^ cN b = pp at g3 ⊢
    generalize 2 ^ cN z = qq
    omega
  have m2 : cN v / 256 = cN n / 256 + 2 ^ cN z := by
    rw [k3]
    generalize 2 ^ cN b = pp at g3 ⊢
    generalize 2 ^ cN z = qq
    omega
  refine ⟨k2, fun j hj hj8 => ?_, fun k hk hb => ?_, fun j hj hz => ?_⟩
  · rw [m1, bt_add _ (by omega) _ hb8 hi j hj8, if_neg (by omega)]
    exact h2 j (by omega) hj8
  · rw [m2, bt_add _ (by omega) _ hz8 hf k hk] at hb
    by_cases q : k = cN z
    · exact ⟨cN b, by omega, by rw [← ez, q]; exact cN_nI r0 (by decide)⟩
    · rw [if_neg q] at hb
      obtain ⟨j, hj, e⟩ := h3 k hk hb
      exact ⟨j, by omega, e⟩
  · have rj : Rg (-1) 7 (f (10 + j)) := hs.at_in _ (by omega) (by omega)
    have j8 : cN (f (10 + j)) < 8 := cN_lt (lo := 0) (hi := 7) ⟨hz, rj.2⟩ (by decide)
    rw [m2, bt_add _ (by omega) _ hz8 hf _ j8]
    rcases Nat.lt_or_ge j (cN b) with q | q
    · by_cases q2 : cN (f (10 + j)) = cN z
      · rw [if_pos q2]
      · rw [if_neg q2]; exact h4 j q hz
    · have e : j = cN b := by omega
      rw [e, ← ez, if_pos rfl]
/-- what is known of a situation that is now -/
def NOW (f : Nat → Int32) (n : Int32) : Prop := BK n ∧ ∀ j, j < cN (f 0) → 0 ≤ (f (10 + j)).toInt → bt (cN n / 256) (cN (f (10 + j))) = 1
theorem SIT_e {f : Nat → Int32} {b n z : Int32} {lo hi lo2 hi2 : Int} (h : SIT f (cN b) n) (h2 : cN b ≤ cN (f 0)) (ez : z = f 0) (c : z ≤ b) (rz : Rg lo hi z) (rb : Rg lo2 hi2 b) (hh : 0 ≤ lo ∧ 0 ≤ lo2) : NOW f n := by
  have h3 := le_cN c rz rb hh
  rw [ez] at h3
  have e : cN b = cN (f 0) := by omega
  rw [e] at h
  exact ⟨h.1, h.2.2.2⟩
theorem bh_rg {f : Nat → Int32} {a t x : Int32} (e : x = bhF f (cN a) (cN t)) (h : ¬ x < 0) (k : ¬ x < 0 → BK x) : BK x := k h
theorem t81 {t x y : Int32} {lo hi : Int} (r : Rg lo hi t) (hh : 8 ≤ lo) (e1 : x = t / 8) (e2 : y = x - 1) : cN y = cN t / 8 - 1 := by
  have et := cN_nI r (by omega)
  have h1 := cN_31 t r (by omega)
  have h2 := cN_i r (by omega)
  have h3 := r.1
  have e3 : y = nI (cN t / 8 - 1) := by rw [e2, e1, et, show (8 : Int32) = nI 8 from rfl, pk_div h1 (by decide) (by decide), ← et, show (1 : Int32) = nI 1 from rfl, pk_sub (by omega)]
  exact cN_of e3 (by omega)
theorem t8r {t x : Int32} {lo hi : Int} (r : Rg lo hi t) (hh : 0 ≤ lo) (e : x = t - t / 8 * 8) : cN x = cN t % 8 := by
  have et := cN_nI r hh
  have h1 := cN_31 t r hh
  have e3 : x = nI (cN t % 8) := by rw [e, et, show (8 : Int32) = nI 8 from rfl, pk_rem h1 (by decide) (by decide), ← et]
  exact cN_of e3 (by omega)
theorem nb_of {f : Nat → Int32} {b : Int32} {k : Nat} {lo hi : Int} (h : ¬ (0 ≤ Int32.toInt b ∧ Int32.toInt b < Int32.toInt (f k))) (r : Rg lo hi b) (h0 : 0 ≤ lo) (hk : Rg 0 8 (f k)) : ¬ cN b < cN (f k) := by
  have h1 := cN_i r h0; have h2 := cN_i hk (by decide); have := r.1
  intro q
  exact h ⟨by omega, by omega⟩
theorem yb_of {f : Nat → Int32} {b : Int32} {k : Nat} (h : 0 ≤ Int32.toInt b ∧ Int32.toInt b < Int32.toInt (f k)) (hk : Rg 0 8 (f k)) : cN b < cN (f k) := by
  have h2 := cN_i hk (by decide)
  have h1 : ((cN b : Nat) : Int) = b.toInt := Int.toNat_of_nonneg h.1
  omega
theorem ix_add {x b : Int32} {k : Nat} {kk : Int32} {lo hi : Int} (e : x = kk + b) (r : Rg lo hi b) (h : 0 ≤ lo ∧ hi < 1000) (hk : k < 1000 ∧ kk = nI k) : cN x = k + cN b := by
  have eb := cN_nI r h.1
  have hb := cN_i r h.1
  have := r.2
  have e2 : x = nI (k + cN b) := by rw [e, hk.2, eb, nI_add, ← eb]
  exact cN_of e2 (by omega)
