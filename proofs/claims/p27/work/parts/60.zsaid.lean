/-! ===== the reference: what was told ===== -/
def INJ (f : Nat → Int32) : Prop := ∀ b c, b < cN (f 0) → c < cN (f 0) → b ≠ c → 0 ≤ (f (10 + b)).toInt → f (10 + b) ≠ f (10 + c)
def SINJ (f : Nat → Int32) : Prop := ∀ j k, j < 10 → k < 10 → j ≠ k → 0 ≤ (f (92 + j)).toInt → f (92 + j) ≠ f (92 + k)
def SI (f : Nat → Int32) : Prop := Rg 0 8 (f 0) ∧ Rg 0 8 (f 1) ∧ Rg 0 6 (f 2) ∧ Rg 0 9999 (f 3) ∧ Rg 0 8 (f 4) ∧ Rg 0 20 (f 5) ∧ Rg 0 8 (f 6) ∧ (∀ i, 10 ≤ i → i < 18 → Rg (-1) 7 (f i)) ∧ (∀ b, b < 8 → 0 < (f 0).toInt → Rg 1 20 (f (18 + 5 * b + 2)) ∧ Rg 1 20 (f (18 + 5 * b + 3))) ∧ (∀ i, 92 ≤ i → i < 102 → Rg (-1) 9 (f i)) ∧ (∀ i, 102 ≤ i → i < 132 → Rg 0 7 (f i)) ∧ Rg 0 10 (f 132) ∧ INJ f ∧ SINJ f
theorem SI.a0 {f : Nat → Int32} (h : SI f) : Rg 0 8 (f 0) := h.1
theorem SI.a1 {f : Nat → Int32} (h : SI f) : Rg 0 8 (f 1) := h.2.1
theorem SI.a2 {f : Nat → Int32} (h : SI f) : Rg 0 6 (f 2) := h.2.2.1
theorem SI.a3 {f : Nat → Int32} (h : SI f) : Rg 0 9999 (f 3) := h.2.2.2.1
theorem SI.a4 {f : Nat → Int32} (h : SI f) : Rg 0 8 (f 4) := h.2.2.2.2.1
theorem SI.a5 {f : Nat → Int32} (h : SI f) : Rg 0 20 (f 5) := h.2.2.2.2.2.1
theorem SI.a6 {f : Nat → Int32} (h : SI f) : Rg 0 8 (f 6) := h.2.2.2.2.2.2.1
theorem SI.at_in {f : Nat → Int32} (h : SI f) : ∀ i, 10 ≤ i → i < 18 → Rg (-1) 7 (f i) := h.2.2.2.2.2.2.2.1
theorem SI.at_tm {f : Nat → Int32} (h : SI f) : ∀ b, b < 8 → 0 < (f 0).toInt → Rg 1 20 (f (18 + 5 * b + 2)) ∧ Rg 1 20 (f (18 + 5 * b + 3)) := h.2.2.2.2.2.2.2.2.1
theorem SI.at_se {f : Nat → Int32} (h : SI f) : ∀ i, 92 ≤ i → i < 102 → Rg (-1) 9 (f i) := h.2.2.2.2.2.2.2.2.2.1
theorem SI.at_cr {f : Nat → Int32} (h : SI f) : ∀ i, 102 ≤ i → i < 132 → Rg 0 7 (f i) := h.2.2.2.2.2.2.2.2.2.2.1
theorem SI.a132 {f : Nat → Int32} (h : SI f) : Rg 0 10 (f 132) := h.2.2.2.2.2.2.2.2.2.2.2.1
theorem SI.inj {f : Nat → Int32} (h : SI f) : INJ f := h.2.2.2.2.2.2.2.2.2.2.2.2.1
theorem SI.sinj {f : Nat → Int32} (h : SI f) : SINJ f := h.2.2.2.2.2.2.2.2.2.2.2.2.2
theorem SI.li {f : Nat → Int32} (h : SI f) {i : Int32} {lo hi : Int} (r : Rg lo hi i) (hh : 10 ≤ lo ∧ hi < 18) : Rg (-1) 7 (f (cN i)) := by
  have e := cN_i r (by omega)
  have := r.1; have := r.2
  exact h.at_in _ (by omega) (by omega)
theorem SI.ls {f : Nat → Int32} (h : SI f) {i : Int32} {lo hi : Int} (r : Rg lo hi i) (hh : 92 ≤ lo ∧ hi < 102) : Rg (-1) 9 (f (cN i)) := by
  have e := cN_i r (by omega)
  have := r.1; have := r.2
  exact h.at_se _ (by omega) (by omega)
theorem SI.lc {f : Nat → Int32} (h : SI f) {i : Int32} {lo hi : Int} (r : Rg lo hi i) (hh : 102 ≤ lo ∧ hi < 132) : Rg 0 7 (f (cN i)) := by
  have e := cN_i r (by omega)
  have := r.1; have := r.2
  exact h.at_cr _ (by omega) (by omega)
/-- an index that is reckoned -/
theorem ix5 {b x y z w : Int32} {k c : Nat} {kk cc : Int32} (rb : Rg 0 7 b) (e0 : cc = nI c) (hc : c < 100) (ek : kk = nI k) (hk : k < 10) (e1 : x = 5 * b) (e2 : y = cc + x) (e3 : z = y + kk) : cN z = c + 5 * cN b + k := by
  have eb := cN_nI rb (by decide)
  have hb : cN b < 8 := cN_lt rb (by decide)
  have e : z = nI (c + 5 * cN b + k) := by rw [e3, e2, e1, e0, ek, eb, show (5 : Int32) = nI 5 from rfl, pk_mul, nI_add, nI_add, ← eb]
  exact cN_of e (by omega)
theorem ix2 {b x y z w : Int32} {k c : Nat} {kk cc : Int32} (rb : Rg 0 7 b) (e0 : cc = nI c) (hc : c < 100) (ek : kk = nI k) (hk : k < 10) (e1 : x = 2 * b) (e2 : y = cc + x) (e3 : z = y + kk) : cN z = c + 2 * cN b + k := by
  have eb := cN_nI rb (by decide)
  have hb : cN b < 8 := cN_lt rb (by decide)
  have e : z = nI (c + 2 * cN b + k) := by rw [e3, e2, e1, e0, ek, eb, show (2 : Int32) = nI 2 from rfl, pk_mul, nI_add, nI_add, ← eb]
  exact cN_of e (by omega)
def fitF (f : Nat → Int32) (b h : Nat) : Nat := if f (18 + 5 * b + 1) = 0 then if f (58 + 2 * h + 1) = 0 then if f (18 + 5 * b + 0) = f (58 + 2 * h + 0) then 1 else 0 else 0 else 0
theorem fit_rg (f : Nat → Int32) (b h : Nat) : Rg 0 1 (nI (fitF f b h)) := by
  unfold fitF
  split
  · split
    · split
      · exact nI_r (by decide) (by decide)
      · exact nI_r (by decide) (by decide)
    · exact nI_r (by decide) (by decide)
  · exact nI_r (by decide) (by decide)
def cjF (f : Nat → Int32) (c b h : Nat) : Nat := if bt (c % 256) b = 0 then if bt (c / 256) h = 0 then if fitF f b h = 0 then 0 else if pc (c % 256 % 2 ^ b) = pc (c / 256 % 2 ^ h) then 1 else 0 else 0 else 0
theorem cj_rg (f : Nat → Int32) (c b h : Nat) : Rg 0 1 (nI (cjF f c b h)) := by
  unfold cjF
  split
  · split
    · split
      · exact nI_r (by decide) (by decide)
      · split
        · exact nI_r (by decide) (by decide)
        · exact nI_r (by decide) (by decide)
    · exact nI_r (by decide) (by decide)
  · exact nI_r (by decide) (by decide)
theorem cj_1 {f : Nat → Int32} {c b h : Nat} {z : Int32} (e : z = nI (cjF f c b h)) (q : ¬ z = 0) : bt (c % 256) b = 0 ∧ bt (c / 256) h = 0 ∧ cjF f c b h = 1 := by
  unfold cjF at e ⊢
  split at e
  · rename_i h1
    split at e
    · rename_i h2
      split at e
      · exact absurd e q
      · rename_i h3
        split at e
        · rename_i h4
          exact ⟨h1, h2, by rw [if_pos h1, if_pos h2, if_neg h3, if_pos h4]⟩
        · exact absurd e q
    · exact absurd e q
  · exact absurd e q
theorem cj_0 {f : Nat → Int32} {c b h : Nat} {z : Int32} (e : z = nI (cjF f c b h)) (q : z = 0) : ¬ cjF f c b h = 1 := by
  intro h9; rw [h9] at e; rw [e] at q; exact absurd q (by decide)
theorem fz_0 {n : Nat} {z : Int32} (e : z = nI n) (q : z = 0) (hn : n < 2147483648) : n = 0 := by
  rcases Nat.eq_zero_or_pos n with h | h
  · exact h
  · exact absurd (e.symm.trans q) (nI_ne0 h hn)
theorem fz_1 {n : Nat} {z : Int32} (e : z = nI n) (q : ¬ z = 0) : ¬ n = 0 := by intro h; rw [h] at e; exact q e
theorem fit_lt (f : Nat → Int32) (b h : Nat) : fitF f b h < 2 := by
  unfold fitF; split
  · split
    · split <;> omega
    · omega
  · omega
theorem cj_bits {a b x y t s : Int32} (rb : Rg 0 7 b) (rx : Rg 0 255 x) (es : s = (1 : Int32) <<< (b &&& 31)) (et : t = s - 1) (eu : y = x &&& t) : cN y = cN x % 2 ^ cN b := by
  have e1 := bel_x es et ⟨rb.1, Int.le_trans rb.2 (by decide)⟩
  have e2 := msk eu e1 rx (by decide) ⟨rb.1, Int.le_trans rb.2 (by decide)⟩
  exact cN_of e2 (by have := Nat.mod_le (cN x) (2 ^ cN b); have := cN_31 x rx (by decide); omega)
theorem pc_ne {n m : Nat} {x y : Int32} (e1 : x = nI (pc n)) (e2 : y = nI (pc m)) : (x = y ↔ pc n = pc m) := by
  rw [e1, e2]
  exact nI_eq (by have := pc_le n; omega) (by have := pc_le m; omega)
/-- runs of OPEN -/
def runF (i : Nat) : Nat → Nat × Nat
  | 0 => (0, 0)
  | b + 1 => ((if bt i b = 1 then 0 else (runF i b).1 + 1), max (if bt i b = 1 then 0 else (runF i b).1 + 1) (runF i b).2)
theorem run_le (i b : Nat) : (runF i b).1 ≤ b ∧ (runF i b).2 ≤ b := by
  induction b with
  | zero => exact ⟨Nat.le_refl _, Nat.le_refl _⟩
  | succ b ih =>
    show (if bt i b = 1 then 0 else (runF i b).1 + 1) ≤ b + 1 ∧ max (if bt i b = 1 then 0 else (runF i b).1 + 1) (runF i b).2 ≤ b + 1
    have h1 : (if bt i b = 1 then 0 else (runF i b).1 + 1) ≤ b + 1 := by split <;> omega
    exact ⟨h1, Nat.max_le.mpr ⟨h1, by omega⟩⟩
def lawF (f : Nat → Int32) (c : Nat) : Nat := if f 6 < nI (runF (c % 256) (cN (f 0))).2 then 0 else if ((((1 : Int32) <<< (f 0 &&& 31)) - 1) &&& (nI (c % 256) ^^^ (-1))) &&& f 7 = 0 then 1 else 0
theorem law_rg (f : Nat → Int32) (c : Nat) : Rg 0 1 (nI (lawF f c)) := by
  unfold lawF
  split
  · exact nI_r (by decide) (by decide)
  · split
    · exact nI_r (by decide) (by decide)
    · exact nI_r (by decide) (by decide)
theorem law_1 {f : Nat → Int32} {c : Nat} {z : Int32} (e : z = nI (lawF f c)) (q : ¬ z = 0) : lawF f c = 1 := by
  unfold lawF at e ⊢
  split at e
  · exact absurd e q
  · rename_i h1
    split at e
    · rename_i h2; rw [if_neg h1, if_pos h2]
    · exact absurd e q
theorem law_0 {f : Nat → Int32} {c : Nat} {z : Int32} (e : z = nI (lawF f c)) (q : z = 0) : ¬ lawF f c = 1 := by
  intro h9; rw [h9] at e; rw [e] at q; exact absurd q (by decide)
/-- behind an act -/
def bhF (f : Nat → Int32) (c t : Nat) : Int32 :=
  if t < 8 then (if t < cN (f 0) then (if bt (c % 256) t = 1 then nI (c - 2 ^ t - 256 * 2 ^ plF c t) else -1) else -1)
  else if t / 8 - 1 < cN (f 0) then (if t % 8 < cN (f 1) then (if cjF f c (t / 8 - 1) (t % 8) = 1 then nI (c + 2 ^ (t / 8 - 1) + 256 * 2 ^ (t % 8)) else -1) else -1) else -1
def blF (f : Nat → Int32) (c t : Nat) : Int32 := if bhF f c t < 0 then -1 else if lawF f (cN (bhF f c t)) = 1 then bhF f c t else -1
theorem pos_of {b a : Int} (h : 0 ≤ b ∧ b < a) : 0 < a := by omega
theorem Rg.divL {x a b : Int32} {al ah k : Nat} {lo hi : Int} (e : x = a / b) (ra : Rg (al : Int) (ah : Int) a) (rb : Rg (k : Int) (k : Int) b) (h : 0 < k) (h8 : lo ≤ ((al / k : Nat) : Int)) (h9 : ((ah / k : Nat) : Int) ≤ hi) : Rg lo hi x := by
  obtain ⟨n, rfl, hn, en⟩ := r_nI (a := a) (hi := ah) ⟨by have := ra.1; omega, ra.2⟩
  obtain ⟨j, rfl, hj, ej⟩ := r_nI (a := b) (hi := k) ⟨by have := rb.1; omega, rb.2⟩
  have h1 := ra.1; have h2 := ra.2; have h3 := rb.1; have h4 := rb.2
  have ek : j = k := by omega
  subst ek
  rw [e, pk_div hn (by omega) hj]
  have h5 : n / j ≤ n := Nat.div_le_self _ _
  have h6 : al / j ≤ n / j := Nat.div_le_div_right (by omega)
  have h7 : n / j ≤ ah / j := Nat.div_le_div_right (by omega)
  have t := nI_toInt (n := n / j) (by omega)
  have u1 := Int.ofNat_le.mpr h6
  have u2 := Int.ofNat_le.mpr h7
  exact ⟨by omega, by omega⟩
