theorem cpy_all {f g : Nat → Int32} {n j : Nat} {m : Int32} (hm : Int32.toNatClampNeg m = n) (hj : j < n) : va_cpy f g (Int32.toNatClampNeg 0) (Int32.toNatClampNeg 0) (Int32.toNatClampNeg m) j = f j := by
  have h0 : Int32.toNatClampNeg 0 = 0 := rfl
  rw [hm, h0]
  unfold va_cpy
  rw [if_pos ⟨Nat.zero_le _, by omega⟩]
  congr 1
  omega
/-- texts, what a row may be cast to, and the kinds of rows of references -/
def XC (sa sv : Nat → Nat) (D : va_G) (ks : List (ClassId × FieldType)) : XX := fun A U H => SX sa sv A U H ∧ va_Nw (.castable "[I" "java/lang/Cloneable") U ∧ va_K D vwCl ks U
theorem XC_ok (sa sv : Nat → Nat) (D : va_G) (ks : List (ClassId × FieldType)) : XOK (XC sa sv D ks) :=
  ⟨fun A B U H h hb => ⟨(SX_ok sa sv).1 A B U H h.1 hb, h.2⟩,
   fun A u U H hW h => ⟨(SX_ok sa sv).2.1 A u U H hW h.1, va_Nw.warmC hW h.2.1, h.2.2.moved hW.alike⟩,
   fun A u U H hv h => ⟨(SX_ok sa sv).2.2.1 A u U H hv h.1, va_Nw.same rfl hv h.2.1, h.2.2.moved (by rw [hv]; exact Vm.Alike.refl _)⟩,
   fun A U H H1 h hk => ⟨(SX_ok sa sv).2.2.2 A U H H1 h.1 hk, h.2⟩⟩
theorem cl_le {v : Int32} (h : Rg 0 400 v) : Int32.toNatClampNeg v ≤ 400 := by
  have h1 := h.1
  have h2 := h.2
  have e : ((Int32.toNatClampNeg v : Nat) : Int) = v.toInt := Int.toNat_of_nonneg h1
  omega
theorem rg_n0 {v : Int32} (h : Rg 0 400 v) : ¬ v < 0 := by
  rw [Int32.lt_iff_toInt_lt, Int32.toInt_zero]
  have := h.1
  omega
theorem mn_eq {v : Int32} {n : Nat} (h : Int32.toNatClampNeg v ≤ n) (h0 : Rg 0 400 v) (hn : n ≤ 400) : (if v < nI n then v else nI n) = v := by
  obtain ⟨k, hk, rfl⟩ := nI_of (rg_n0 h0)
  rw [nI_clamp hk] at h
  by_cases q : nI k < nI n
  · rw [if_pos q]
  · rw [if_neg q]
    rcases Nat.lt_or_ge k n with h1 | h1
    · exact absurd (nI_lt h1 (by omega)) q
    · have z : k = n := by omega
      rw [z]
theorem cpy_pre {f g : Nat → Int32} {n j : Nat} {m : Int32} (hm : Int32.toNatClampNeg m = n) (hj : j < n) : va_cpy f g (Int32.toNatClampNeg 0) (Int32.toNatClampNeg 0) (Int32.toNatClampNeg m) j = f j := cpy_all hm hj
theorem rg_cl {v : Int32} {lo hi : Int} {n : Nat} (h : Rg lo hi v) (hh : 0 ≤ lo ∧ hi ≤ (n : Int)) : Int32.toNatClampNeg v ≤ n := by
  have h1 : 0 ≤ v.toInt := Int.le_trans hh.1 h.1
  have h2 := h.2
  have e : ((Int32.toNatClampNeg v : Nat) : Int) = v.toInt := Int.toNat_of_nonneg h1
  omega
theorem le_ad {a b x y ca cb : Int32} {la ha lb hb i j : Int} (h : a.toInt ≤ b.toInt) (ea : x = a + ca) (ra : Rg la ha a) (rca : Rg i i ca) (eb : y = b + cb) (rb : Rg lb hb b) (rcb : Rg j j cb) (hh : i ≤ j ∧ ha + i ≤ 2147483647 ∧ -2147483648 ≤ la + i ∧ hb + j ≤ 2147483647 ∧ -2147483648 ≤ lb + j) : x.toInt ≤ y.toInt := by
  have t1 := Rg.addE ea ra rca ⟨by omega, by omega⟩
  have t2 := Rg.addE eb rb rcb ⟨by omega, by omega⟩
  have := rca.1; have := rca.2; have := rcb.1; have := rcb.2
  omega
theorem le_a0 {a b y cb : Int32} {lb hb j : Int} (h : a.toInt ≤ b.toInt) (eb : y = b + cb) (rb : Rg lb hb b) (rcb : Rg j j cb) (hh : 0 ≤ j ∧ hb + j ≤ 2147483647 ∧ -2147483648 ≤ lb + j) : a.toInt ≤ y.toInt := by
  have t2 := Rg.addE eb rb rcb ⟨by omega, by omega⟩
  have := rcb.1; have := rcb.2
  omega
theorem rg_le {a b : Int32} {la ha lb hb : Int} (h : a.toInt ≤ b.toInt) (ra : Rg la ha a) (rb : Rg lb hb b) : Rg la hb a := ⟨ra.1, Int.le_trans h rb.2⟩
