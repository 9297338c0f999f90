/-! ===== moves, just ===== -/
def F10 (f : Nat → Int32) : Nat → Int32 := fun k => if k < 10 then f k else -1
theorem f10 {f : Nat → Int32} {k : Nat} (h : k < 10) : F10 f k = f k := if_pos h
theorem f10_eq {f g : Nat → Int32} (h : ∀ j, j < 10 → f j = g j) : F10 f = F10 g := by
  funext k
  unfold F10
  split
  · rename_i q; exact h k q
  · rfl
def awF (f : Nat → Int32) : Nat → Nat
  | 0 => 0
  | k + 1 => awF f k + (if f k < 0 then 0 else if f k = nI k then 0 else 1)
def emF (f : Nat → Int32) : Nat → Nat
  | 0 => 0
  | k + 1 => emF f k + (if f k < 0 then 1 else 0)
def rdF (f : Nat → Int32) (n : Nat) : Nat → Nat
  | 0 => 0
  | k + 1 => rdF f n k + (if f k < 0 then 0 else if f k = nI k then 0 else if CH f (nI k) n = nI k then 1 else 0)
def rdG (f : Nat → Int32) (n : Nat) : Nat → Nat
  | 0 => 0
  | k + 1 => rdG f n k + (if CH f (nI k) n = nI k then if f k = nI k then 0 else 1 else 0)
theorem aw_le (f : Nat → Int32) (k : Nat) : awF f k ≤ k := by
  induction k with
  | zero => exact Nat.le_refl _
  | succ k ih =>
    show awF f k + (if f k < 0 then 0 else if f k = nI k then 0 else 1) ≤ k + 1
    split
    · omega
    · split <;> omega
theorem em_le (f : Nat → Int32) (k : Nat) : emF f k ≤ k := by
  induction k with
  | zero => exact Nat.le_refl _
  | succ k ih =>
    show emF f k + (if f k < 0 then 1 else 0) ≤ k + 1
    split <;> omega
theorem rd_aw (f : Nat → Int32) (n k : Nat) : rdF f n k ≤ awF f k := by
  induction k with
  | zero => exact Nat.le_refl _
  | succ k ih =>
    show rdF f n k + (if f k < 0 then 0 else if f k = nI k then 0 else if CH f (nI k) n = nI k then 1 else 0) ≤ awF f k + (if f k < 0 then 0 else if f k = nI k then 0 else 1)
    split
    · omega
    · split
      · omega
      · split <;> omega
theorem rd_eq {f : Nat → Int32} {n : Nat} (hn : n ≤ 10) : ∀ k, k ≤ n → rdG f n k = rdF f n k := by
  intro k
  induction k with
  | zero => intro _; rfl
  | succ k ih =>
    intro hk
    show rdG f n k + (if CH f (nI k) n = nI k then if f k = nI k then 0 else 1 else 0) = rdF f n k + (if f k < 0 then 0 else if f k = nI k then 0 else if CH f (nI k) n = nI k then 1 else 0)
    rw [ih (by omega)]
    by_cases q : f k < 0
    · rw [if_pos q]
      have ek : cN (nI k) = k := cN_of rfl (by omega)
      have e0 : CH f (nI k) 0 = f k := by rw [CH_0, ek]
      have tk : (nI k).toInt = k := nI_toInt (by omega)
      have z : Int32.toInt 0 = 0 := rfl
      have l0 : CH f (nI k) 0 ≤ nI k := by
        rw [e0, i_le]; rw [i_lt] at q; omega
      have ne : ¬ CH f (nI k) n = nI k := by
        rw [CH_same l0 (Nat.zero_le n), e0]
        intro e; rw [e, i_lt] at q; omega
      rw [if_neg ne]
    · rw [if_neg q]
      by_cases q2 : f k = nI k
      · rw [if_pos q2, if_pos q2]; split <;> rfl
      · rw [if_neg q2, if_neg q2]
theorem aw_n {f : Nat → Int32} {k : Nat} (h : f k < 0 ∨ f k = nI k) : awF f (k + 1) = awF f k := by
  show awF f k + (if f k < 0 then 0 else if f k = nI k then 0 else 1) = awF f k
  rcases h with h | h
  · rw [if_pos h]; rfl
  · split
    · rfl
    · rfl
theorem aw_y {f : Nat → Int32} {k : Nat} (h1 : ¬ f k < 0) (h2 : ¬ f k = nI k) : awF f (k + 1) = awF f k + 1 := by
  show awF f k + (if f k < 0 then 0 else if f k = nI k then 0 else 1) = awF f k + 1
  rw [if_neg h1, if_neg h2]
theorem em_y {f : Nat → Int32} {k : Nat} (h : f k < 0) : emF f (k + 1) = emF f k + 1 := by
  show emF f k + (if f k < 0 then 1 else 0) = emF f k + 1
  rw [if_pos h]
theorem em_n {f : Nat → Int32} {k : Nat} (h : ¬ f k < 0) : emF f (k + 1) = emF f k := by
  show emF f k + (if f k < 0 then 1 else 0) = emF f k
  rw [if_neg h]; rfl
theorem rd_n {f : Nat → Int32} {n k : Nat} (h : f k < 0 ∨ f k = nI k) : rdF f n (k + 1) = rdF f n k := by
  show rdF f n k + (if f k < 0 then 0 else if f k = nI k then 0 else if CH f (nI k) n = nI k then 1 else 0) = rdF f n k
  rcases h with h | h
  · rw [if_pos h]; rfl
  · split
    · rfl
    · rfl
theorem rd_y {f : Nat → Int32} {n k : Nat} (h1 : ¬ f k < 0) (h2 : ¬ f k = nI k) (h3 : CH f (nI k) n = nI k) : rdF f n (k + 1) = rdF f n k + 1 := by
  show rdF f n k + (if f k < 0 then 0 else if f k = nI k then 0 else if CH f (nI k) n = nI k then 1 else 0) = rdF f n k + 1
  rw [if_neg h1, if_neg h2, if_pos h3]
theorem rd_z {f : Nat → Int32} {n k : Nat} (h1 : ¬ f k < 0) (h2 : ¬ f k = nI k) (h3 : ¬ CH f (nI k) n = nI k) : rdF f n (k + 1) = rdF f n k := by
  show rdF f n k + (if f k < 0 then 0 else if f k = nI k then 0 else if CH f (nI k) n = nI k then 1 else 0) = rdF f n k
  rw [if_neg h1, if_neg h2, if_neg h3]; rfl
theorem rg_y {f : Nat → Int32} {n k : Nat} (h1 : CH f (nI k) n = nI k) (h2 : ¬ f k = nI k) : rdG f n (k + 1) = rdG f n k + 1 := by
  show rdG f n k + (if CH f (nI k) n = nI k then if f k = nI k then 0 else 1 else 0) = rdG f n k + 1
  rw [if_pos h1, if_neg h2]
theorem rg_n {f : Nat → Int32} {n k : Nat} (h : ¬ CH f (nI k) n = nI k ∨ f k = nI k) : rdG f n (k + 1) = rdG f n k := by
  show rdG f n k + (if CH f (nI k) n = nI k then if f k = nI k then 0 else 1 else 0) = rdG f n k
  rcases h with h | h
  · rw [if_neg h]; rfl
  · split
    · rfl
    · rfl
def mvF (f : Nat → Int32) (n : Nat) : Int32 := if awF f n = 0 then 0 else if emF f n = 0 then -2 else nI (awF f n + rdF f n n)
def MVR (f : Nat → Int32) (a r : Int32) : Prop := (¬ Rg 1 10 a → r = -1) ∧ (Rg 1 10 a → ((∃ i, i < cN a ∧ ¬ f i < a) → r = -1) ∧ ((∀ i, i < cN a → f i < a) → r = mvF f (cN a)))
theorem MVR.one {f : Nat → Int32} {a r r2 : Int32} (h : MVR f a r) (k : MVR f a r2) : r = r2 := by
  by_cases q : Rg 1 10 a
  · by_cases q2 : ∃ i, i < cN a ∧ ¬ f i < a
    · rw [(h.2 q).1 q2, (k.2 q).1 q2]
    · have q3 : ∀ i, i < cN a → f i < a := fun i hi => Decidable.byContradiction (fun z => q2 ⟨i, hi, z⟩)
      rw [(h.2 q).2 q3, (k.2 q).2 q3]
  · rw [h.1 q, k.1 q]
theorem STN.of {f : Nat → Int32} {a : Int32} (h : STN f 0) (ra : Rg 1 10 a) (hb : ∀ i, i < cN a → f i < a) : STN f (cN a) := by
  have e := cN_i ra (by decide)
  refine ⟨h.1, h.2.1, cN_le ra (by decide), fun j hj => ?_⟩
  have := hb j hj
  rw [i_lt] at this
  omega
/-- by what is said -/
theorem SI.stn {f : Nat → Int32} (h : SI f) : STN (F10 (fun k => f (92 + k))) 0 := by
  refine ⟨fun j hj => by rw [f10 hj]; exact h.at_se _ (by omega) (by omega), fun i j hi hj hn hp => ?_, by decide, fun j hj => absurd hj (Nat.not_lt_zero j)⟩
  rw [f10 hi] at hp
  rw [f10 hi, f10 hj]
  exact h.sinj i j hi hj hn hp
