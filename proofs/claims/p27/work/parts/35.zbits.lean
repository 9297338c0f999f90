/-! ===== bits of small sets ===== -/
abbrev cN (a : Int32) : Nat := Int32.toNatClampNeg a
def pc (n : Nat) : Nat := n % 2 + n / 2 % 2 + n / 4 % 2 + n / 8 % 2 + n / 16 % 2 + n / 32 % 2 + n / 64 % 2 + n / 128 % 2
theorem pc_le (n : Nat) : pc n ≤ 8 := by unfold pc; omega
theorem cN_i {a : Int32} {lo hi : Int} (h : Rg lo hi a) (h0 : 0 ≤ lo) : ((cN a : Nat) : Int) = a.toInt := Int.toNat_of_nonneg (Int.le_trans h0 h.1)
theorem cN_nI {a : Int32} {lo hi : Int} (h : Rg lo hi a) (h0 : 0 ≤ lo) : a = nI (cN a) := by
  obtain ⟨n, rfl, hn, en⟩ := r_nI (a := a) (hi := hi) ⟨Int.le_trans h0 h.1, h.2⟩
  show nI n = nI (Int32.toNatClampNeg (nI n))
  rw [nI_clamp hn]
theorem cN_lt {a : Int32} {lo hi : Int} {n : Nat} (h : Rg lo hi a) (h0 : 0 ≤ lo ∧ hi < (n : Int)) : cN a < n := by
  have h1 := cN_i h h0.1; have h2 := h.2; omega
theorem cN_le {a : Int32} {lo hi : Int} {n : Nat} (h : Rg lo hi a) (h0 : 0 ≤ lo ∧ hi ≤ (n : Int)) : cN a ≤ n := by
  have h1 := cN_i h h0.1; have h2 := h.2; omega
theorem cN_of {a : Int32} {n : Nat} (e : a = nI n) (h : n < 2147483648) : cN a = n := by rw [e]; exact nI_clamp h
theorem cN_add {x a c : Int32} {la ha : Int} {k : Nat} (e : x = a + c) (ra : Rg la ha a) (rc : Rg (k : Int) (k : Int) c) (h : 0 ≤ la ∧ ha + k ≤ 2147483647) : cN x = cN a + k := by
  have t := Rg.addE e ra rc ⟨by omega, by omega⟩
  have h1 := cN_i ra h.1
  have h2 := ra.1
  have h3 := rc.1; have h4 := rc.2
  have h5 : 0 ≤ x.toInt := by omega
  have h6 : ((cN x : Nat) : Int) = x.toInt := Int.toNat_of_nonneg h5
  omega
theorem nI_r {n : Nat} {lo hi : Int} (h : lo ≤ (n : Int) ∧ (n : Int) ≤ hi) (h2 : n < 2147483648) : Rg lo hi (nI n) := by
  have h1 := nI_toInt (n := n) (by omega)
  exact ⟨by omega, by omega⟩
def bcX (a : Int32) : Int32 :=
  let i1 := a - ((Int32.toUInt32 a >>> (Int32.toUInt32 1 &&& Int32.toUInt32 31)).toInt32 &&& 1431655765)
  let i2 := (i1 &&& 858993459) + ((Int32.toUInt32 i1 >>> (Int32.toUInt32 2 &&& Int32.toUInt32 31)).toInt32 &&& 858993459)
  let i3 := (i2 + (Int32.toUInt32 i2 >>> (Int32.toUInt32 4 &&& Int32.toUInt32 31)).toInt32) &&& 252645135
  let i4 := i3 + (Int32.toUInt32 i3 >>> (Int32.toUInt32 8 &&& Int32.toUInt32 31)).toInt32
  let i5 := i4 + (Int32.toUInt32 i4 >>> (Int32.toUInt32 16 &&& Int32.toUInt32 31)).toInt32
  i5 &&& 63
theorem bc_all : ∀ n, n < 256 → bcX (nI n) = nI (pc n) := by decide +kernel
theorem bc_x {a : Int32} (h : Rg 0 255 a) : bcX a = nI (pc (cN a)) := by
  have e := cN_nI h (by decide)
  have h2 := bc_all (cN a) (cN_lt h (by decide))
  rw [← e] at h2
  exact h2
theorem pc_rg (n : Nat) : Rg 0 8 (nI (pc n)) := nI_r (by have := pc_le n; omega) (by have := pc_le n; omega)
/-! ===== how many rows there are ===== -/
def alF : Nat → Nat → Nat
  | 0, _ => 0
  | h + 1, k => alF h k + if pc h = k then 1 else 0
theorem alF_le (h k : Nat) : alF h k ≤ h := by
  induction h with
  | zero => exact Nat.le_refl _
  | succ h ih => show alF h k + (if pc h = k then 1 else 0) ≤ h + 1; split <;> omega
def szF (H : Nat) : Nat → Nat
  | 0 => 0
  | i + 1 => szF H i + alF H (pc i)
def rowsOf (b h : Nat) : Nat := szF (2 ^ h) (2 ^ b)
theorem szF_le (H i : Nat) : szF H i ≤ i * H := by
  induction i with
  | zero => simp [szF]
  | succ i ih =>
    show szF H i + alF H (pc i) ≤ (i + 1) * H
    have := alF_le H (pc i)
    rw [Nat.add_mul]; omega
def chT : List (List Nat) := [[1], [1, 1], [1, 2, 1], [1, 3, 3, 1], [1, 4, 6, 4, 1], [1, 5, 10, 10, 5, 1], [1, 6, 15, 20, 15, 6, 1], [1, 7, 21, 35, 35, 21, 7, 1], [1, 8, 28, 56, 70, 56, 28, 8, 1]]
def chO (h k : Nat) : Nat := (chT.getD h []).getD k 0
def szG (h : Nat) : Nat → Nat
  | 0 => 0
  | i + 1 => szG h i + chO h (pc i)
theorem al_tab : ∀ h, h < 9 → ∀ k, k < 9 → alF (2 ^ h) k = chO h k := by decide +kernel
theorem sz_tab {h : Nat} (hh : h < 9) (i : Nat) : szF (2 ^ h) i = szG h i := by
  induction i with
  | zero => rfl
  | succ i ih =>
    show szF (2 ^ h) i + alF (2 ^ h) (pc i) = szG h i + chO h (pc i)
    rw [ih, al_tab h hh (pc i) (by have := pc_le i; omega)]
/-- the numbers of rows that there can be -/
def DV : List Nat := [1, 2, 3, 4, 5, 6, 7, 8, 9, 10, 15, 20, 21, 28, 35, 36, 45, 56, 70, 84, 120, 126, 165, 210, 252, 330, 462, 495, 792, 924, 1287, 1716, 3003, 3432, 6435, 12870]
theorem dv_all : ∀ b, b < 9 → ∀ h, h < 9 → DV.contains (szG h (2 ^ b)) = true := by decide +kernel
theorem rows_dv {b h : Nat} (hb : b < 9) (hh : h < 9) : rowsOf b h ∈ DV := by
  have := dv_all b hb h hh
  rw [← sz_tab hh] at this
  exact List.contains_iff_mem.mp this
theorem dv_le : ∀ n ∈ DV, 1 ≤ n ∧ n ≤ 12870 := by decide
theorem rows_le {b h : Nat} (hb : b < 9) (hh : h < 9) : 1 ≤ rowsOf b h ∧ rowsOf b h ≤ 12870 := dv_le _ (rows_dv hb hh)
theorem sh_pow : ∀ k, k < 9 → (1 : Int32) <<< (nI k &&& 31) = nI (2 ^ k) := by decide +kernel
theorem sh_x {x a : Int32} {lo hi : Int} (e : x = (1 : Int32) <<< (a &&& 31)) (h : Rg lo hi a) (h2 : 0 ≤ lo ∧ hi ≤ 8) : x = nI (2 ^ cN a) := by
  rw [e]
  have e1 := cN_nI h h2.1
  have h3 := sh_pow (cN a) (cN_lt (n := 9) h (by omega))
  rw [← e1] at h3
  exact h3
theorem pow_le {k : Nat} (h : k < 9) : 2 ^ k ≤ 256 := Nat.pow_le_pow_right (by decide) (show k ≤ 8 by omega)
theorem al_0 {g : Nat → Int32} {v : Int32} (h : ∀ j, g j = v) (hv : v = 0) : ∀ k, k < 9 → g k = nI (alF (cN 0) k) := fun k _ => by rw [h k, hv]; rfl
theorem al_step {g : Nat → Int32} {i mn y z : Int32} {lo hi : Int} (h : ∀ k, k < 9 → g k = nI (alF (cN i) k)) (ri : Rg lo hi i) (hh : 0 ≤ lo ∧ hi ≤ 255) (em : mn = nI (pc (cN i))) (ey : y = g (cN mn)) (ez : z = y + 1) : ∀ k, k < 9 → upd g (cN mn) z k = nI (alF (cN i + 1) k) := by
  intro k hk
  have hp := pc_le (cN i)
  have e1 : cN mn = pc (cN i) := cN_of em (by omega)
  have hl := alF_le (cN i) (pc (cN i))
  have hi2 : cN i ≤ 255 := cN_le ri hh
  unfold upd
  show (if k = cN mn then z else g k) = nI (alF (cN i) k + if pc (cN i) = k then 1 else 0)
  by_cases q : k = cN mn
  · rw [if_pos q, ez, ey, h (cN mn) (by omega), e1]
    have q2 : pc (cN i) = k := by omega
    rw [if_pos q2, q2, show (1 : Int32) = nI 1 from rfl, nI_add]
  · rw [if_neg q, h k hk]
    have q2 : ¬ pc (cN i) = k := by omega
    rw [if_neg q2, Nat.add_zero]
theorem al_rg {g : Nat → Int32} {i mn : Int32} {lo hi : Int} (h : ∀ k, k < 9 → g k = nI (alF (cN i) k)) (ri : Rg lo hi i) (hh : 0 ≤ lo ∧ hi ≤ 256) (rm : Rg 0 8 mn) : Rg 0 256 (g (cN mn)) := by
  have hi2 : cN i ≤ 256 := cN_le ri hh
  have hm : cN mn < 9 := cN_lt rm (by decide)
  rw [h _ hm]
  have hl := alF_le (cN i) (cN mn)
  exact nI_r (by omega) (by omega)
theorem al_rgH {g : Nat → Int32} {H : Nat} {mn : Int32} (h : ∀ k, k < 9 → g k = nI (alF H k)) (hh : H ≤ 256) (rm : Rg 0 8 mn) : Rg 0 256 (g (cN mn)) := by
  have hm : cN mn < 9 := cN_lt rm (by decide)
  rw [h _ hm]
  have hl := alF_le H (cN mn)
  exact nI_r (by omega) (by omega)
theorem al_exit {g : Nat → Int32} {i x lh : Int32} {H : Nat} (h : ∀ k, k < 9 → g k = nI (alF (cN i) k)) (e : cN i = H) : ∀ k, k < 9 → g k = nI (alF H k) := by rw [← e]; exact h
theorem le_cN {a b : Int32} {la ha lb hb : Int} (h : a ≤ b) (ra : Rg la ha a) (rb : Rg lb hb b) (hh : 0 ≤ la ∧ 0 ≤ lb) : cN a ≤ cN b := by
  rw [i_le] at h
  have h1 := cN_i ra hh.1; have h2 := cN_i rb hh.2; omega
theorem lt_cN {a b : Int32} {la ha lb hb : Int} (h : a < b) (ra : Rg la ha a) (rb : Rg lb hb b) (hh : 0 ≤ la ∧ 0 ≤ lb) : cN a < cN b := by
  rw [i_lt] at h
  have h1 := cN_i ra hh.1; have h2 := cN_i rb hh.2; omega
theorem sz_step {v y z i : Int32} {g : Nat → Int32} {mn : Int32} {H : Nat} {lo hi : Int} (hv : v = nI (szF H (cN i))) (h : ∀ k, k < 9 → g k = nI (alF H k)) (em : mn = nI (pc (cN i))) (ey : y = g (cN mn)) (ez : z = v + y) : z = nI (szF H (cN i + 1)) := by
  have hp := pc_le (cN i)
  have e1 : cN mn = pc (cN i) := cN_of em (by omega)
  rw [ez, ey, hv, h (cN mn) (by omega), e1, nI_add]
  rfl
theorem sz_rg {v i : Int32} {H : Nat} {lo hi : Int} (hv : v = nI (szF H (cN i))) (hH : H ≤ 256) (ri : Rg lo hi i) (hh : 0 ≤ lo ∧ hi ≤ 256) : Rg 0 65536 v := by
  have h1 := szF_le H (cN i)
  have h2 : cN i ≤ 256 := cN_le ri hh
  have h3 : cN i * H ≤ 256 * 256 := Nat.mul_le_mul h2 hH
  rw [hv]
  exact nI_r (by omega) (by omega)
theorem sz_rgN {v : Int32} {H n : Nat} (hv : v = nI (szF H n)) (hH : H ≤ 256) (hn : n ≤ 256) : Rg 0 65536 v := by
  have h1 := szF_le H n
  have h3 : n * H ≤ 256 * 256 := Nat.mul_le_mul hn hH
  rw [hv]
  exact nI_r (by omega) (by omega)
theorem rows_rg {v b h : Int32} {l1 h1 l2 h2 : Int} (hv : v = nI (rowsOf (cN b) (cN h))) (rb : Rg l1 h1 b) (rh : Rg l2 h2 h) (hh : 0 ≤ l1 ∧ h1 ≤ 8 ∧ 0 ≤ l2 ∧ h2 ≤ 8) : Rg 1 12870 v := by
  have h3 := rows_le (cN_lt (n := 9) rb (by omega)) (cN_lt (n := 9) rh (by omega))
  rw [hv]
  exact nI_r (by omega) (by omega)
