/-! ===== seats: what stays, and what a call of seat makes of them ===== -/
def SEA (f g : Nat → Int32) : Prop := ∀ j, j < 10 → g (92 + j) = f (92 + j)
theorem SEA.rf {f : Nat → Int32} : SEA f f := fun _ _ => rfl
theorem SEA.tr {f g h : Nat → Int32} (a : SEA f g) (b : SEA g h) : SEA f h := fun j hj => (b j hj).trans (a j hj)
theorem SEA.up {f g : Nat → Int32} {i : Nat} {v : Int32} (h : SEA f g) (hi : i < 92 ∨ 102 ≤ i) : SEA f (upd g i v) := fun j hj => by rw [up_n (by omega)]; exact h j hj
theorem sea_ix {x : Int32} {lo hi : Int} (r : Rg lo hi x) (h : 0 ≤ lo ∧ (hi < 92 ∨ 102 ≤ lo)) : cN x < 92 ∨ 102 ≤ cN x := by
  have e := cN_i r h.1
  have := r.1; have := r.2
  omega
theorem sea_tb {f g : Nat → Int32} (h : ∀ j, (j < 10 ∨ 18 ≤ j) → g j = f j) : SEA f g := fun j hj => h _ (Or.inr (by omega))
theorem sea_cp {f0 r f : Nat → Int32} (h : CPY f0 r f 92) : SEA f0 f := fun j hj => h.2 _ (by omega)
theorem and3 {a b c : Prop} (h : a ∧ b) (k : c) : a ∧ b ∧ c := ⟨h.1, h.2, k⟩
/-- those who sit: who comes is gone elsewhere, up to seat n -/
def ST1 (f : Nat → Int32) (b : Int32) (n j : Nat) : Int32 := if j < n then (if f j = b then -1 else f j) else f j
def STF (f : Nat → Int32) (a : Nat) (b : Int32) (j : Nat) : Int32 := if j = a then b else if f j = b then -1 else f j
theorem st1_0 (f : Nat → Int32) (b : Int32) (j : Nat) : ST1 f b 0 j = f j := if_neg (Nat.not_lt_zero j)
theorem st1_n {f : Nat → Int32} {b : Int32} {n j : Nat} (h : f n ≠ b ∨ b = -1) : ST1 f b (n + 1) j = ST1 f b n j := by
  unfold ST1
  by_cases q : j < n
  · rw [if_pos q, if_pos (by omega)]
  · rw [if_neg q]
    by_cases q2 : j = n
    · rw [if_pos (by omega), q2]
      rcases h with h | h
      · rw [if_neg h]
      · by_cases q3 : f n = b
        · rw [if_pos q3, q3, h]
        · rw [if_neg q3]
    · rw [if_neg (by omega)]
theorem st1_s {f : Nat → Int32} {b : Int32} {n : Nat} (h : f n = b) : ∀ j, ST1 f b (n + 1) j = if j = n then -1 else ST1 f b n j := by
  intro j
  unfold ST1
  by_cases q2 : j = n
  · rw [if_pos q2, if_pos (by omega), q2, if_pos h]
  · rw [if_neg q2]
    by_cases q : j < n
    · rw [if_pos q, if_pos (by omega)]
    · rw [if_neg q, if_neg (by omega)]
theorem st1_at (f : Nat → Int32) (b : Int32) (n : Nat) : ST1 f b n n = f n := if_neg (Nat.lt_irrefl n)
theorem st1_e {f : Nat → Int32} {b : Int32} {n j : Nat} (hn : 10 ≤ n) (hj : j < 10) : ST1 f b n j = if f j = b then -1 else f j := if_pos (by omega)
/-- the reference's row of seats within all that is said -/
def SEQ (f g : Nat → Int32) (b : Int32) (n : Nat) : Prop := ∀ j, j < 10 → g (92 + j) = ST1 (fun k => f (92 + k)) b n j
theorem SEQ.nil {f : Nat → Int32} {b : Int32} : SEQ f f b 0 := fun j _ => (st1_0 (fun k => f (92 + k)) b j).symm
theorem SEQ.n {f g : Nat → Int32} {b : Int32} {n : Nat} (h : SEQ f g b n) (q : f (92 + n) ≠ b ∨ b = -1) : SEQ f g b (n + 1) := fun j hj => (h j hj).trans (st1_n (f := fun k => f (92 + k)) q).symm
theorem SEQ.ld {f g : Nat → Int32} {b : Int32} {n : Nat} (h : SEQ f g b n) (hn : n < 10) : g (92 + n) = f (92 + n) := (h n hn).trans (st1_at (fun k => f (92 + k)) b n)
theorem SEQ.s {f g : Nat → Int32} {b : Int32} {n : Nat} (h : SEQ f g b n) (q : f (92 + n) = b) : SEQ f (upd g (92 + n) (-1)) b (n + 1) := by
  intro j hj
  rw [st1_s (f := fun k => f (92 + k)) q]
  by_cases e : j = n
  · rw [if_pos e, e, pk_us]
  · rw [if_neg e, up_n (by omega)]; exact h j hj
theorem SEQ.e {f g : Nat → Int32} {b : Int32} {n a : Nat} (h : SEQ f g b n) (hn : 10 ≤ n) : ∀ j, j < 10 → upd g (92 + a) b (92 + j) = STF (fun k => f (92 + k)) a b j := by
  intro j hj
  unfold STF
  by_cases e : j = a
  · rw [if_pos e, e, pk_us]
  · rw [if_neg e, up_n (by omega), h j hj, st1_e hn hj]
/-- the object's row of seats -/
def SXQ (f g : Nat → Int32) (b : Int32) (n : Nat) : Prop := ∀ j, j < 10 → g j = ST1 f b n j
theorem SXQ.nil {f : Nat → Int32} {b : Int32} : SXQ f f b 0 := fun j _ => (st1_0 _ b j).symm
theorem SXQ.n {f g : Nat → Int32} {b : Int32} {n : Nat} (h : SXQ f g b n) (q : f n ≠ b ∨ b = -1) : SXQ f g b (n + 1) := fun j hj => (h j hj).trans (st1_n q).symm
theorem SXQ.ld {f g : Nat → Int32} {b : Int32} {n : Nat} (h : SXQ f g b n) (hn : n < 10) : g n = f n := (h n hn).trans (st1_at f b n)
theorem SXQ.s {f g : Nat → Int32} {b : Int32} {n : Nat} (h : SXQ f g b n) (q : f n = b) : SXQ f (upd g n (-1)) b (n + 1) := by
  intro j hj
  rw [st1_s q]
  by_cases e : j = n
  · rw [if_pos e, e, pk_us]
  · rw [if_neg e, up_n (by omega)]; exact h j hj
theorem SXQ.e {f g : Nat → Int32} {b : Int32} {n a : Nat} (h : SXQ f g b n) (hn : 10 ≤ n) : ∀ j, j < 10 → upd g a b j = STF f a b j := by
  intro j hj
  unfold STF
  by_cases e : j = a
  · rw [if_pos e, e, pk_us]
  · rw [if_neg e, up_n (by omega), h j hj, st1_e hn hj]
/-- an answer of seat, and what is then -/
def STG (a b : Int32) : Prop := Rg 0 9 a ∧ Rg (-1) 9 b
theorem STG.bm {a b : Int32} (h : STG a b) (q : b < 0) : b = -1 := by
  apply Int32.toInt_inj.mp
  rw [i_lt] at q
  have e0 : Int32.toInt 0 = 0 := rfl
  have e1 : Int32.toInt (-1) = -1 := rfl
  have := h.2.1
  omega
theorem SEQ.s' {f g : Nat → Int32} {b : Int32} {n i : Nat} (h : SEQ f g b n) (q : f (92 + n) = b) (e : i = 92 + n) : SEQ f (upd g i (-1)) b (n + 1) := by rw [e]; exact h.s q
theorem SEQ.e' {f g : Nat → Int32} {b : Int32} {n a i : Nat} (h : SEQ f g b n) (hn : 10 ≤ n) (e : i = 92 + a) : ∀ j, j < 10 → upd g i b (92 + j) = STF (fun k => f (92 + k)) a b j := by rw [e]; exact h.e hn
theorem inY {x : Int32} {P Q : Prop} (h : Rg 0 1 x ∧ (¬ x = 0 → P) ∧ Q) : Rg 0 1 x ∧ (¬ x = 0 → P) := ⟨h.1, h.2.1⟩
