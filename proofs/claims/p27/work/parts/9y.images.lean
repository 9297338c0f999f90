/-! ===== the law: the reference's images ===== -/
theorem SI.ext {f g : Nat → Int32} (h : SI g) (e : ∀ i, i < 133 → f i = g i) : SI f := by
  have k8 : cN (g 0) ≤ 8 := cN_le h.a0 (by decide)
  refine ⟨by rw [e 0 (by omega)]; exact h.a0, by rw [e 1 (by omega)]; exact h.a1, by rw [e 2 (by omega)]; exact h.a2, by rw [e 3 (by omega)]; exact h.a3, by rw [e 4 (by omega)]; exact h.a4, by rw [e 5 (by omega)]; exact h.a5, by rw [e 6 (by omega)]; exact h.a6, fun i x y => by rw [e i (by omega)]; exact h.at_in i x y, fun b hb q => by rw [e 0 (by omega)] at q; rw [e _ (by omega), e _ (by omega)]; exact h.at_tm b hb q, fun i x y => by rw [e i (by omega)]; exact h.at_se i x y, fun i x y => by rw [e i (by omega)]; exact h.at_cr i x y, by rw [e 132 (by omega)]; exact h.a132, ?_, ?_⟩
  · intro b c hb hc hn hp
    rw [e 0 (by omega)] at hb hc
    rw [e (10 + b) (by omega)] at hp ⊢
    rw [e (10 + c) (by omega)]
    exact h.inj b c hb hc hn hp
  · intro j k hj hk hn hp
    rw [e (92 + j) (by omega)] at hp ⊢
    rw [e (92 + k) (by omega)]
    exact h.sinj j k hj hk hn hp
theorem lf_ws {f f2 g : Nat → Int32} {s s2 : Int32} (h : (f2 = f ∧ s2 = s) ∨ s2 = 0) (hw : WSI f g (cN s)) : WSI f2 g (cN s2) := by
  rcases h with ⟨e1, e2⟩ | e
  · rw [e1, e2]; exact hw
  · rw [e]; exact ws_0
def MIM (gim gix gmd : Nat → Int32) : Prop := ∀ k, k < 4 → ¬ gmd k = 0 → SI (fun i => gim (133 * k + i)) ∧ Rg 0 2147483647 (gix k)
theorem bk_si {f f2 gim gix gmd : Nat → Int32} {a : Int32} (hm : ∀ k, k < 4 → ¬ gmd k = 0 → SI (fun i => gim (133 * k + i)) ∧ Rg 0 2147483647 (gix k)) (ra : Rg 0 3 a) (hn : ¬ gmd (cN a) = 0) (hb : BCK f f2 gim (cN a) 133) : SI f2 :=
  SI.ext (hm (cN a) (cN_lt ra (by decide)) hn).1 hb
theorem im_mi {f gim gim2 gix gix2 gmd gmd2 : Nat → Int32} {a sx_ : Int32} (hm : ∀ k, k < 4 → ¬ gmd k = 0 → SI (fun i => gim (133 * k + i)) ∧ Rg 0 2147483647 (gix k)) (hs : SI f) (rx : Rg 0 2147483647 sx_) (hi : IMG f gim gim2 (cN a) 133) (ex : gix2 = upd gix (cN a) sx_) (em : gmd2 = upd gmd (cN a) 1) : ∀ k, k < 4 → ¬ gmd2 k = 0 → SI (fun i => gim2 (133 * k + i)) ∧ Rg 0 2147483647 (gix2 k) := by
  intro k hk hn
  by_cases q : k = cN a
  · rw [q, ex, pk_us]
    exact ⟨SI.ext hs hi.2, rx⟩
  · rw [em, up_n q] at hn
    rw [ex, up_n q]
    obtain ⟨h1, h2⟩ := hm k hk hn
    exact ⟨SI.ext h1 (hi.1 k hk q), h2⟩
