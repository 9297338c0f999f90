/-! ===== the reference: a text of clauses as it is read ===== -/
def TX (sta snx ste sma sli : Int32) (gln gsg gcl gcs : Nat → Int32) : Prop :=
  PS sta snx ste sma gln gsg 0 (400 * cN ste + cN (gln (cN ste))) 0 ∧ Rg 0 12 (gcs (cN ste)) ∧ (gcs (cN ste)).toInt ≤ sli.toInt ∧ Rg 0 12 sli ∧ CV gsg gcl (cN ste) (cN (gcs (cN ste))) (cN (gln (cN ste)))
theorem TX.cs {sta snx ste sma sli : Int32} {gln gsg gcl gcs : Nat → Int32} (h : TX sta snx ste sma sli gln gsg gcl gcs) (hl : ¬ sli = 12) : Rg 0 11 (gcs (cN ste)) := by
  obtain ⟨h1, h2, h3, h4, h5⟩ := h
  have r : Rg 0 11 sli := Rg.ne hl h4 (Rg.c (c := 12) (k := 12) rfl) (by decide)
  exact ⟨h2.1, by have := r.2; omega⟩
theorem TX.adv {sta snx ste sma sli n2 : Int32} {gln gsg gcl gcs : Nat → Int32} (h : TX sta snx ste sma sli gln gsg gcl gcs) (hn : NX sta snx n2) : TX sta n2 ste sma sli gln gsg gcl gcs := by
  obtain ⟨h1, h2, h3, h4, h5⟩ := h
  exact ⟨h1.adv hn, h2, h3, h4, h5⟩
theorem TX.act {sta snx ste sma sli n2 m2 sli2 : Int32} {gln gsg gcl gcs gln2 gsg2 gcl2 gcs2 : Nat → Int32} (h : TX sta snx ste sma sli gln gsg gcl gcs) (hl : ¬ sli = 12) (e : sli2 = sli + 1) (hk : KP gsg gln gsg2 gln2 (cN ste))
    (hw : CW gsg2 gcl2 (cN ste) (48 * cN ste + 4 * cN (gcs (cN ste))) (cN (gln2 (cN ste))) ∧ gcs2 = upd gcs (cN ste) (gcs (cN ste) + 1) ∧ PS sta n2 ste m2 gln2 gsg2 0 (400 * cN ste + cN (gln2 (cN ste))) 0)
    (hc : ∀ j, j < 48 * cN ste + 4 * cN (gcs (cN ste)) → gcl2 j = gcl j) : TX sta n2 ste m2 sli2 gln2 gsg2 gcl2 gcs2 := by
  have rc := h.cs hl
  obtain ⟨h1, h2, h3, h4, h5⟩ := h
  obtain ⟨w1, w2, w3⟩ := hw
  have r : Rg 0 11 sli := Rg.ne hl h4 (Rg.c (c := 12) (k := 12) rfl) (by decide)
  have us : gcs2 (cN ste) = gcs (cN ste) + 1 := by rw [w2, pk_us]
  have ec : cN (gcs2 (cN ste)) = cN (gcs (cN ste)) + 1 := cN_add (k := 1) us rc (Rg.c rfl) (by decide)
  have e1 := Rg.addE us rc (Rg.c (c := 1) (k := 1) rfl) (by decide)
  have e2 := Rg.addE e r (Rg.c (c := 1) (k := 1) rfl) (by decide)
  have e0 : Int32.toInt 1 = 1 := rfl
  refine ⟨w3, Rg.add us rc (Rg.c (c := 1) (k := 1) rfl) (by decide), by omega, Rg.add e r (Rg.c (c := 1) (k := 1) rfl) (by decide), ?_⟩
  rw [ec]
  exact (h5.keep hk.1 hc hk.2).more w1
theorem TX.start {sta ste : Int32} {gln gsg gcl gcs gln2 : Nat → Int32} (rs : Rg 0 400 sta) (rt : Rg 0 5 ste) (el : gln2 = upd gln (cN ste) 0) (ec : gcs (cN ste) = 0) : TX sta 0 ste 0 0 gln2 gsg gcl gcs := by
  have e0 : Int32.toInt 0 = 0 := rfl
  refine ⟨by rw [el]; exact PS.start rs rt, by rw [ec]; exact ⟨by decide, by decide⟩, by rw [ec]; exact Int.le_refl _, ⟨by decide, by decide⟩, ?_⟩
  rw [ec]
  exact CV.nil
