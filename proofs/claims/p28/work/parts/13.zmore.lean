theorem cpy_all {f g : Nat → Int32} {n j : Nat} {m : Int32} (hm : Int32.toNatClampNeg m = n) (hj : j < n) : va_cpy f g (Int32.toNatClampNeg 0) (Int32.toNatClampNeg 0) (Int32.toNatClampNeg m) j = f j := by
  have h0 : Int32.toNatClampNeg 0 = 0 := rfl
  rw [hm, h0]
  unfold va_cpy
  rw [if_pos ⟨Nat.zero_le _, by omega⟩]
  congr 1
  omega
