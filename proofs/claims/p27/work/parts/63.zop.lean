theorem op_rg {f : Nat → Int32} (h : SI f) (y : Int32) : Rg 0 255 ((((1 : Int32) <<< (f 0 &&& 31)) - 1) &&& y) := by
  have e := bel_x rfl rfl h.a0 (x := (1 : Int32) <<< (f 0 &&& 31)) (z := ((1 : Int32) <<< (f 0 &&& 31)) - 1)
  have r : Rg 0 255 (((1 : Int32) <<< (f 0 &&& 31)) - 1) := by rw [e]; exact bel_rg h.a0
  exact Rg.andl rfl r ⟨by decide, by decide⟩
