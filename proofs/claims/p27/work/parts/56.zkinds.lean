/-- the kinds of rows of references can be made -/
def XA : XX := fun _ U _ => va_AO "WrongHole$Rule" U ∧ va_AO "WrongHole$Worn" U
theorem XA_ok : XOK XA :=
  ⟨fun _ _ _ _ h _ => h, fun _ _ _ _ hW h => ⟨h.1.moved hW.alike, h.2.moved hW.alike⟩, fun _ _ _ _ hv h => ⟨h.1.moved (al_of hv), h.2.moved (al_of hv)⟩, fun _ _ _ _ h _ => h⟩
