/-! ===== the reference: a LIFT as it is read ===== -/
def RC (f : Nat → Int32) : Prop := Rg 0 8 (f 0) ∧ Rg 0 8 (f 1) ∧ Rg 0 6 (f 2) ∧ f 3 = 0 ∧ Rg 0 8 (f 4) ∧ Rg 0 20 (f 5) ∧ Rg 0 8 (f 6)
def RJ (f : Nat → Int32) : Prop := (∀ i, 10 ≤ i → i < 18 → Rg (-1) 7 (f i)) ∧ (∀ b, b < 8 → Rg 1 20 (f (18 + 5 * b + 2)) ∧ Rg 1 20 (f (18 + 5 * b + 3))) ∧ INJ f
def RI (f : Nat → Int32) : Prop := RC f ∧ (¬ f 0 = 0 → RJ f)
def RK (f : Nat → Int32) : Prop := RC f ∧ ¬ f 0 = 0 ∧ RJ f
theorem RK.ri {f : Nat → Int32} (h : RK f) : RI f := ⟨h.1, fun _ => h.2.2⟩
theorem RI.rk {f : Nat → Int32} {z : Int32} (h : RI f) (e : z = f 0) (q : ¬ z = 0) : RK f := ⟨h.1, by rw [← e]; exact q, h.2 (by rw [← e]; exact q)⟩
theorem RK.c0 {f : Nat → Int32} (h : RK f) : Rg 0 8 (f 0) := h.1.1
theorem RK.c1 {f : Nat → Int32} (h : RK f) : Rg 0 8 (f 1) := h.1.2.1
theorem RK.c2 {f : Nat → Int32} (h : RK f) : Rg 0 6 (f 2) := h.1.2.2.1
theorem RK.li {f : Nat → Int32} (h : RK f) {i : Int32} {lo hi : Int} (r : Rg lo hi i) (hh : 10 ≤ lo ∧ hi < 18) : Rg (-1) 7 (f (cN i)) := by
  have e := cN_i r (by omega)
  have := r.1; have := r.2
  exact h.2.2.1 _ (by omega) (by omega)
theorem RK.same {f g : Nat → Int32} (h : RK f) (h1 : ∀ j, j < 7 → g j = f j) (h2 : ∀ j, 10 ≤ j → j < 18 → g j = f j) (h3 : ∀ b, b < 8 → g (18 + 5 * b + 2) = f (18 + 5 * b + 2) ∧ g (18 + 5 * b + 3) = f (18 + 5 * b + 3)) : RK g := by
  obtain ⟨⟨a0, a1, a2, a3, a4, a5, a6⟩, n0, j1, j2, j3⟩ := h
  have e0 := h1 0 (by omega)
  refine ⟨⟨by rw [e0]; exact a0, by rw [h1 1 (by omega)]; exact a1, by rw [h1 2 (by omega)]; exact a2, by rw [h1 3 (by omega)]; exact a3, by rw [h1 4 (by omega)]; exact a4, by rw [h1 5 (by omega)]; exact a5, by rw [h1 6 (by omega)]; exact a6⟩, by rw [e0]; exact n0, fun i x y => by rw [h2 i x y]; exact j1 i x y, fun b hb => by rw [(h3 b hb).1, (h3 b hb).2]; exact j2 b hb, ?_⟩
  intro b c hb hc hn hp
  have k8 : cN (f 0) ≤ 8 := cN_le a0 (by decide)
  rw [e0] at hb hc
  rw [h2 (10 + b) (by omega) (by omega)] at hp ⊢
  rw [h2 (10 + c) (by omega) (by omega)]
  exact j3 b c hb hc hn hp
/-- a cell that asks for nothing -/
theorem RK.fr {f : Nat → Int32} {i : Nat} {v : Int32} (h : RK f) (hi : i = 7 ∨ 58 ≤ i ∨ ∃ b k, i = 18 + 5 * b + k ∧ (k = 0 ∨ k = 1 ∨ k = 4)) : RK (upd f i v) := by
  refine h.same (fun j hj => up_n ?_) (fun j _ hj => up_n ?_) (fun b hb => ⟨up_n ?_, up_n ?_⟩)
  · rcases hi with q | q | ⟨b, k, q, _⟩ <;> omega
  · rcases hi with q | q | ⟨b, k, q, _⟩ <;> omega
  · rcases hi with q | q | ⟨b, k, q, r | r | r⟩ <;> omega
  · rcases hi with q | q | ⟨b, k, q, r | r | r⟩ <;> omega
theorem RK.tm {f : Nat → Int32} {b k : Nat} {v : Int32} (h : RK f) (hk : k = 2 ∨ k = 3) (r : Rg 1 20 v) : RK (upd f (18 + 5 * b + k) v) := by
  obtain ⟨⟨a0, a1, a2, a3, a4, a5, a6⟩, n0, j1, j2, j3⟩ := h
  have u : ∀ j, j < 18 → upd f (18 + 5 * b + k) v j = f j := fun j hj => up_n (by omega)
  refine ⟨⟨by rw [u 0 (by omega)]; exact a0, by rw [u 1 (by omega)]; exact a1, by rw [u 2 (by omega)]; exact a2, by rw [u 3 (by omega)]; exact a3, by rw [u 4 (by omega)]; exact a4, by rw [u 5 (by omega)]; exact a5, by rw [u 6 (by omega)]; exact a6⟩, by rw [u 0 (by omega)]; exact n0, fun i x y => by rw [u i y]; exact j1 i x y, fun c hc => ?_, ?_⟩
  · refine ⟨?_, ?_⟩
    · by_cases q : 18 + 5 * c + 2 = 18 + 5 * b + k
      · rw [q, pk_us]; exact r
      · rw [up_n q]; exact (j2 c hc).1
    · by_cases q : 18 + 5 * c + 3 = 18 + 5 * b + k
      · rw [q, pk_us]; exact r
      · rw [up_n q]; exact (j2 c hc).2
  · intro c d hc hd hn hp
    have k8 : cN (f 0) ≤ 8 := cN_le a0 (by decide)
    rw [u 0 (by omega)] at hc hd
    rw [u (10 + c) (by omega)] at hp ⊢
    rw [u (10 + d) (by omega)]
    exact j3 c d hc hd hn hp
theorem RK.c456 {f : Nat → Int32} {i : Nat} {v : Int32} (h : RK f) (hi : i = 2 ∧ Rg 0 6 v ∨ i = 4 ∧ Rg 0 8 v ∨ i = 5 ∧ Rg 0 20 v ∨ i = 6 ∧ Rg 0 8 v) : RK (upd f i v) := by
  obtain ⟨⟨a0, a1, a2, a3, a4, a5, a6⟩, n0, j1, j2, j3⟩ := h
  have ul : ∀ j, 7 ≤ j → upd f i v j = f j := fun j hj => up_n (by rcases hi with q | q | q | q <;> omega)
  have u : ∀ j, j < 2 ∨ j = 3 → upd f i v j = f j := fun j hj => up_n (by rcases hi with q | q | q | q <;> omega)
  have J : RJ (upd f i v) := by
    refine ⟨fun i x y => by rw [ul i (by omega)]; exact j1 i x y, fun c hc => by rw [ul _ (by omega), ul _ (by omega)]; exact j2 c hc, ?_⟩
    intro c d hc hd hn hp
    rw [u 0 (by omega)] at hc hd
    rw [ul (10 + c) (by omega)] at hp ⊢
    rw [ul (10 + d) (by omega)]
    exact j3 c d hc hd hn hp
  refine ⟨⟨by rw [u 0 (by omega)]; exact a0, by rw [u 1 (by omega)]; exact a1, ?_, by rw [u 3 (by omega)]; exact a3, ?_, ?_, ?_⟩, by rw [u 0 (by omega)]; exact n0, J⟩
  · rcases hi with ⟨q, r⟩ | ⟨q, r⟩ | ⟨q, r⟩ | ⟨q, r⟩
    · rw [q, pk_us]; exact r
    · rw [up_n (by omega)]; exact a2
    · rw [up_n (by omega)]; exact a2
    · rw [up_n (by omega)]; exact a2
  · rcases hi with ⟨q, r⟩ | ⟨q, r⟩ | ⟨q, r⟩ | ⟨q, r⟩
    · rw [up_n (by omega)]; exact a4
    · rw [q, pk_us]; exact r
    · rw [up_n (by omega)]; exact a4
    · rw [up_n (by omega)]; exact a4
  · rcases hi with ⟨q, r⟩ | ⟨q, r⟩ | ⟨q, r⟩ | ⟨q, r⟩
    · rw [up_n (by omega)]; exact a5
    · rw [up_n (by omega)]; exact a5
    · rw [q, pk_us]; exact r
    · rw [up_n (by omega)]; exact a5
  · rcases hi with ⟨q, r⟩ | ⟨q, r⟩ | ⟨q, r⟩ | ⟨q, r⟩
    · rw [up_n (by omega)]; exact a6
    · rw [up_n (by omega)]; exact a6
    · rw [up_n (by omega)]; exact a6
    · rw [q, pk_us]; exact r
theorem RK.inn {f : Nat → Int32} {i b : Nat} {v : Int32} (h : RK f) (hi : i = 10 + b) (hb : b < 8) (r : Rg 0 7 v) (hd : ∀ o, o < cN (f 0) → o ≠ b → ¬ f (10 + o) < 0 → ¬ f (10 + o) = v) : RK (upd f i v) := by
  obtain ⟨⟨a0, a1, a2, a3, a4, a5, a6⟩, n0, j1, j2, j3⟩ := h
  subst hi
  have u : ∀ j, j < 10 → upd f (10 + b) v j = f j := fun j hj => up_n (by omega)
  have e0 : Int32.toInt 0 = 0 := rfl
  refine ⟨⟨by rw [u 0 (by omega)]; exact a0, by rw [u 1 (by omega)]; exact a1, by rw [u 2 (by omega)]; exact a2, by rw [u 3 (by omega)]; exact a3, by rw [u 4 (by omega)]; exact a4, by rw [u 5 (by omega)]; exact a5, by rw [u 6 (by omega)]; exact a6⟩, by rw [u 0 (by omega)]; exact n0, ?_, fun c hc => by rw [up_n (by omega), up_n (by omega)]; exact j2 c hc, ?_⟩
  · intro i x y
    by_cases q : i = 10 + b
    · rw [q, pk_us]; exact r.wk (by decide)
    · rw [up_n q]; exact j1 i x y
  · intro c d hc hd' hn hp
    rw [u 0 (by omega)] at hc hd'
    by_cases q : c = b
    · rw [q, pk_us] at hp ⊢
      rw [up_n (by omega)]
      intro z
      exact hd d hd' (by omega) (by rw [← z, i_lt]; omega) z.symm
    · rw [up_n (by omega)] at hp ⊢
      by_cases q2 : d = b
      · rw [q2, pk_us]
        exact hd c hc q (by rw [i_lt]; omega)
      · rw [up_n (by omega)]
        exact j3 c d hc hd' hn hp
/-- a row as it begins -/
def RW (f0 f : Nat → Int32) (n : Nat) : Prop := (∀ j, j < 10 → f j = f0 j) ∧ ∀ b, b < n → f (10 + b) = -1 ∧ f (18 + 5 * b + 2) = 1 ∧ f (18 + 5 * b + 3) = 2
theorem RW.nil {f : Nat → Int32} : RW f f 0 := ⟨fun _ _ => rfl, fun _ h => absurd h (Nat.not_lt_zero _)⟩
theorem RW.st {f0 g g1 g2 g3 g4 g5 g6 g7 g8 : Nat → Int32} {i1 i2 i3 i4 i5 i6 i7 i8 b : Nat} {v2 v3 v6 v7 v8 : Int32} (h : RW f0 g b) (hb : b < 8) (e1 : g1 = upd g i1 (-1)) (e2 : g2 = upd g1 i2 v2) (e3 : g3 = upd g2 i3 v3) (e4 : g4 = upd g3 i4 1) (e5 : g5 = upd g4 i5 2) (e6 : g6 = upd g5 i6 v6) (e7 : g7 = upd g6 i7 v7) (e8 : g8 = upd g7 i8 v8)
    (h1 : i1 = 10 + b) (h2 : i2 = 18 + 5 * b + 0) (h3 : i3 = 18 + 5 * b + 1) (h4 : i4 = 18 + 5 * b + 2) (h5 : i5 = 18 + 5 * b + 3) (h6 : i6 = 18 + 5 * b + 4) (h7 : 58 ≤ i7) (h8 : 58 ≤ i8) : RW f0 g8 (b + 1) := by
  obtain ⟨k1, k2⟩ := h
  have t : ∀ j, j ≠ i1 → j ≠ i2 → j ≠ i3 → j ≠ i4 → j ≠ i5 → j ≠ i6 → j < 58 → g8 j = g j := by
    intro j n1 n2 n3 n4 n5 n6 n7
    rw [e8, up_n (by omega), e7, up_n (by omega), e6, up_n n6, e5, up_n n5, e4, up_n n4, e3, up_n n3, e2, up_n n2, e1, up_n n1]
  refine ⟨fun j hj => (t j (by omega) (by omega) (by omega) (by omega) (by omega) (by omega) (by omega)).trans (k1 j hj), fun c hc => ?_⟩
  by_cases q : c = b
  · subst q
    refine ⟨?_, ?_, ?_⟩
    · rw [e8, up_n (by omega), e7, up_n (by omega), e6, up_n (by omega), e5, up_n (by omega), e4, up_n (by omega), e3, up_n (by omega), e2, up_n (by omega), e1, h1, pk_us]
    · rw [e8, up_n (by omega), e7, up_n (by omega), e6, up_n (by omega), e5, up_n (by omega), e4, h4, pk_us]
    · rw [e8, up_n (by omega), e7, up_n (by omega), e6, up_n (by omega), e5, h5, pk_us]
  · have hc2 : c < b := by omega
    obtain ⟨y1, y2, y3⟩ := k2 c hc2
    exact ⟨(t _ (by omega) (by omega) (by omega) (by omega) (by omega) (by omega) (by omega)).trans y1, (t _ (by omega) (by omega) (by omega) (by omega) (by omega) (by omega) (by omega)).trans y2, (t _ (by omega) (by omega) (by omega) (by omega) (by omega) (by omega) (by omega)).trans y3⟩
theorem RW.rk {f g f0 f1 : Nat → Int32} {u v : Int32} {n : Nat} (h : RI f) (e0 : f0 = upd f 0 u) (e1 : f1 = upd f0 1 v) (ru : Rg 1 8 u) (rv : Rg 1 8 v) (k : RW f1 g n) (hn : 8 ≤ n) : RK g := by
  obtain ⟨⟨a0, a1, a2, a3, a4, a5, a6⟩, _⟩ := h
  obtain ⟨k1, k2⟩ := k
  have g0 : g 0 = u := by rw [k1 0 (by omega), e1, up_n (by omega), e0, pk_us]
  have g1 : g 1 = v := by rw [k1 1 (by omega), e1, pk_us]
  have gj : ∀ j, 2 ≤ j → j < 10 → g j = f j := fun j h1 h2 => by rw [k1 j h2, e1, up_n (by omega), e0, up_n (by omega)]
  refine ⟨⟨by rw [g0]; exact ru.wk (by decide), by rw [g1]; exact rv.wk (by decide), by rw [gj 2 (by omega) (by omega)]; exact a2, by rw [gj 3 (by omega) (by omega)]; exact a3, by rw [gj 4 (by omega) (by omega)]; exact a4, by rw [gj 5 (by omega) (by omega)]; exact a5, by rw [gj 6 (by omega) (by omega)]; exact a6⟩, ?_, ?_, ?_, ?_⟩
  · rw [g0]; intro q; have := ru.1; rw [q] at this; exact absurd this (by decide)
  · intro i h1 h2
    have e := (k2 (i - 10) (by omega)).1
    rw [show 10 + (i - 10) = i by omega] at e
    rw [e]; exact ⟨by decide, by decide⟩
  · intro b hb
    obtain ⟨_, y2, y3⟩ := k2 b (by omega)
    rw [y2, y3]; exact ⟨⟨by decide, by decide⟩, ⟨by decide, by decide⟩⟩
  · intro b c hb hc hn' hp
    have k8 : cN (g 0) ≤ 8 := by rw [g0]; exact cN_le ru (by decide)
    rw [(k2 b (by omega)).1] at hp
    exact absurd hp (by decide)
/-- none of these has this hole -/
def NH (f : Nat → Int32) (b h : Int32) (n : Nat) : Prop := ∀ o, o < n → o ≠ cN b → ¬ f (10 + o) < 0 → ¬ f (10 + o) = h
theorem NH.nil {f : Nat → Int32} {b h : Int32} : NH f b h 0 := fun _ q => absurd q (Nat.not_lt_zero _)
theorem NH.st {f : Nat → Int32} {b h : Int32} {n : Nat} (k : NH f b h n) (q : n ≠ cN b → ¬ f (10 + n) < 0 → ¬ f (10 + n) = h) : NH f b h (n + 1) := by
  intro o ho
  by_cases e : o = n
  · rw [e]; exact q
  · exact k o (by omega)
theorem RI.zero {f : Nat → Int32} {n : Nat} (h : ∀ j, j < n → f j = 0) (hn : 10 ≤ n) : RI f := by
  have z : ∀ j, j < 7 → f j = 0 := fun j hj => h j (by omega)
  have r : ∀ {hi : Int}, 0 ≤ hi → Rg 0 hi (0 : Int32) := fun h => ⟨by decide, h⟩
  refine ⟨⟨by rw [z 0 (by omega)]; exact r (by decide), by rw [z 1 (by omega)]; exact r (by decide), by rw [z 2 (by omega)]; exact r (by decide), z 3 (by omega), by rw [z 4 (by omega)]; exact r (by decide), by rw [z 5 (by omega)]; exact r (by decide), by rw [z 6 (by omega)]; exact r (by decide)⟩, fun q => absurd (z 0 (by omega)) q⟩
/-- what is read becomes what is told -/
def CPY (f0 r f : Nat → Int32) (n : Nat) : Prop := (∀ j, j < n → f j = r j) ∧ ∀ j, n ≤ j → f j = f0 j
theorem CPY.nil {f r : Nat → Int32} : CPY f r f 0 := ⟨fun _ h => absurd h (Nat.not_lt_zero _), fun _ _ => rfl⟩
theorem CPY.st {f0 r f : Nat → Int32} {n : Nat} {v : Int32} (h : CPY f0 r f n) (e : v = r n) : CPY f0 r (upd f n v) (n + 1) := by
  obtain ⟨h1, h2⟩ := h
  refine ⟨fun j hj => ?_, fun j hj => ?_⟩
  · by_cases q : j = n
    · rw [q, pk_us]; exact e
    · rw [up_n q]; exact h1 j (by omega)
  · rw [up_n (by omega)]; exact h2 j (by omega)
theorem CPY.si {f0 r f : Nat → Int32} (h : CPY f0 r f 92) (hs : SI f0) (hr : RK r) : SI f := by
  obtain ⟨h1, h2⟩ := h
  obtain ⟨⟨a0, a1, a2, a3, a4, a5, a6⟩, n0, j1, j2, j3⟩ := hr
  have u : ∀ j, j < 92 → f j = r j := h1
  have k8 : cN (r 0) ≤ 8 := cN_le a0 (by decide)
  refine ⟨by rw [u 0 (by omega)]; exact a0, by rw [u 1 (by omega)]; exact a1, by rw [u 2 (by omega)]; exact a2, by rw [u 3 (by omega), a3]; exact ⟨by decide, by decide⟩, by rw [u 4 (by omega)]; exact a4, by rw [u 5 (by omega)]; exact a5, by rw [u 6 (by omega)]; exact a6, fun i x y => by rw [u i (by omega)]; exact j1 i x y, fun b hb _ => by rw [u _ (by omega), u _ (by omega)]; exact j2 b hb, fun i x y => by rw [h2 i (by omega)]; exact hs.at_se i x y, fun i x y => by rw [h2 i (by omega)]; exact hs.at_cr i x y, by rw [h2 132 (by omega)]; exact hs.a132, ?_, ?_⟩
  · intro b c hb hc hn hp
    rw [u 0 (by omega)] at hb hc
    rw [u (10 + b) (by omega)] at hp ⊢
    rw [u (10 + c) (by omega)]
    exact j3 b c hb hc hn hp
  · intro j k hj hk hn hp
    rw [h2 (92 + j) (by omega)] at hp ⊢
    rw [h2 (92 + k) (by omega)]
    exact hs.sinj j k hj hk hn hp
theorem si_6 {f : Nat → Int32} {v : Int32} (h : SI f) (r : Rg 0 8 v) : SI (upd f 6 v) := by
  have u : ∀ j, j ≠ 6 → upd f 6 v j = f j := fun j hj => up_n hj
  refine ⟨by rw [u 0 (by omega)]; exact h.a0, by rw [u 1 (by omega)]; exact h.a1, by rw [u 2 (by omega)]; exact h.a2, by rw [u 3 (by omega)]; exact h.a3, by rw [u 4 (by omega)]; exact h.a4, by rw [u 5 (by omega)]; exact h.a5, by rw [pk_us]; exact r, fun i x y => by rw [u i (by omega)]; exact h.at_in i x y, fun b hb q => by rw [u 0 (by omega)] at q; rw [u _ (by omega), u _ (by omega)]; exact h.at_tm b hb q, fun i x y => by rw [u i (by omega)]; exact h.at_se i x y, fun i x y => by rw [u i (by omega)]; exact h.at_cr i x y, by rw [u 132 (by omega)]; exact h.a132, ?_, ?_⟩
  · intro b c hb hc hn hp
    rw [u 0 (by omega)] at hb hc
    rw [u (10 + b) (by omega)] at hp ⊢
    rw [u (10 + c) (by omega)]
    exact h.inj b c hb hc hn hp
  · intro j k hj hk hn hp
    rw [u (92 + j) (by omega)] at hp ⊢
    rw [u (92 + k) (by omega)]
    exact h.sinj j k hj hk hn hp
theorem ix5a {b x y : Int32} (rb : Rg 0 7 b) (e1 : x = 5 * b) (e2 : y = 18 + x) : cN y = 18 + 5 * cN b + 0 := by
  have eb := cN_nI rb (by decide)
  have hb : cN b < 8 := cN_lt rb (by decide)
  have e : y = nI (18 + 5 * cN b) := by rw [e2, e1, eb, show (5 : Int32) = nI 5 from rfl, show (18 : Int32) = nI 18 from rfl, pk_mul, nI_add, ← eb]
  exact cN_of e (by omega)
theorem ge_cN {a : Int32} {lo hi : Int} {n : Nat} (h : Rg lo hi a) (h0 : (n : Int) ≤ lo) : n ≤ cN a := by
  have h1 := cN_i h (by omega); have h2 := h.1; omega
def ZRO (f : Nat → Int32) (n : Nat) : Prop := ∀ j, j < n → f j = 0
theorem ZRO.nil {f : Nat → Int32} : ZRO f 0 := fun _ h => absurd h (Nat.not_lt_zero _)
theorem ZRO.st {f : Nat → Int32} {n : Nat} (h : ZRO f n) : ZRO (upd f n 0) (n + 1) := by
  intro j hj
  by_cases q : j = n
  · rw [q, pk_us]
  · rw [up_n q]; exact h j (by omega)
theorem CPY.end {f0 r f : Nat → Int32} {n : Nat} (h : CPY f0 r f n) (h1 : 92 ≤ n) (h2 : n ≤ 92) : CPY f0 r f 92 := by
  have e : n = 92 := by omega
  rw [← e]; exact h
