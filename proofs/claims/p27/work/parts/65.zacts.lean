/-! ===== the reference: acts ===== -/
def tieF (f : Nat → Int32) (b : Nat) : Int32 := if f 4 ≤ nI b then 0 else f 5
def tmF (f : Nat → Int32) (t : Nat) : Int32 := if t < 8 then f (18 + 5 * t + 2) + tieF f t else f (18 + 5 * (t / 8 - 1) + 3) + tieF f (t / 8 - 1)
theorem tie_rg {f : Nat → Int32} (h : SI f) (b : Nat) : Rg 0 20 (tieF f b) := by
  unfold tieF; split
  · exact Rg.wk (lo := 0) (hi := 0) (Rg.c rfl) (by decide)
  · exact h.a5
theorem tm_rg {f : Nat → Int32} (h : SI f) (hp : 0 < (f 0).toInt) {t : Nat} (ht : t < 72) : Rg 1 40 (tmF f t) := by
  unfold tmF; split
  · rename_i h8
    exact Rg.add rfl (h.at_tm t h8 hp).1 (tie_rg h t) (by decide)
  · exact Rg.add rfl (h.at_tm (t / 8 - 1) (by omega) hp).2 (tie_rg h (t / 8 - 1)) (by decide)
theorem bh_no {f : Nat → Int32} {a b : Int32} : ¬ (¬ (-1 : Int32) < 0) := fun h => h (by decide)
/-- an act that may be: what is known of it -/
theorem bl_pos {f : Nat → Int32} (hs : SI f) {c t : Nat} {x : Int32} (e : x = blF f c t) (h : ¬ x < 0) : 0 < (f 0).toInt ∧ ¬ bhF f c t < 0 := by
  have h2 : ¬ bhF f c t < 0 := by
    intro q
    unfold blF at e
    rw [if_pos q] at e
    rw [e] at h; exact h (by decide)
  refine ⟨?_, h2⟩
  have h3 : 0 < cN (f 0) := by
    unfold bhF at h2
    split at h2
    · split at h2
      · omega
      · exact absurd (by decide) h2
    · split at h2
      · omega
      · exact absurd (by decide) h2
  have := cN_i hs.a0 (by decide)
  omega
theorem bh_do {f : Nat → Int32} {c t : Nat} (h : ¬ bhF f c t < 0) (ht : ¬ t < 8) : t / 8 - 1 < cN (f 0) ∧ bt (c / 256) (t % 8) = 0 := by
  unfold bhF at h
  rw [if_neg ht] at h
  split at h
  · rename_i h1
    split at h
    · split at h
      · rename_i h3
        exact ⟨h1, (cj_1 (z := nI (cjF f c (t / 8 - 1) (t % 8))) rfl (by rw [h3]; decide)).2.1⟩
      · exact absurd (by decide) h
    · exact absurd (by decide) h
  · exact absurd (by decide) h
theorem bh_un {f : Nat → Int32} {c t : Nat} (h : ¬ bhF f c t < 0) (ht : t < 8) : t < cN (f 0) ∧ bt (c % 256) t = 1 := by
  unfold bhF at h
  rw [if_pos ht] at h
  split at h
  · rename_i h1
    split at h
    · rename_i h2; exact ⟨h1, h2⟩
    · exact absurd (by decide) h
  · exact absurd (by decide) h
/-- what an act that may be now keeps -/
def MAY (f : Nat → Int32) (t : Nat) : Prop := 0 < (f 0).toInt ∧ (f 3 + tmF f t).toInt ≤ 9999 ∧ (¬ t < 8 → ∀ j, j < cN (f 0) → f (10 + j) ≠ nI (t % 8))
theorem may_of {f : Nat → Int32} (hs : SI f) {n x z y w : Int32} {t : Nat} (hn : NOW f n) (e : x = blF f (cN n) t) (h : ¬ x < 0) (ez : z = f 3) (ey : y = tmF f t) (ew : w = z + y) (c : ¬ 9999 < w) : MAY f t := by
  obtain ⟨h1, h2⟩ := bl_pos hs e h
  refine ⟨h1, ?_, fun ht j hj q => ?_⟩
  · rw [← ez, ← ey, ← ew]
    rw [i_lt] at c
    have e0 : Int32.toInt 9999 = 9999 := rfl
    omega
  · have h3 := (bh_do h2 ht).2
    have hz : 0 ≤ (f (10 + j)).toInt := by rw [q, nI_toInt (by omega)]; omega
    have h4 := hn.2 j hj hz
    rw [q, show cN (nI (t % 8)) = t % 8 from nI_clamp (by omega), h3] at h4
    exact absurd h4 (by decide)
theorem up_n {f : Nat → Int32} {k j : Nat} {x : Int32} (h : j ≠ k) : upd f k x j = f j := pk_un h
theorem si_3 {f : Nat → Int32} {v : Int32} (h : SI f) (r : Rg 0 9999 v) : SI (upd f 3 v) := by
  have u : ∀ j, j ≠ 3 → upd f 3 v j = f j := fun j hj => up_n hj
  refine ⟨?_, ?_, ?_, ?_, ?_, ?_, ?_, ?_, ?_, ?_, ?_, ?_, ?_, ?_⟩
  · rw [u 0 (by decide)]; exact h.a0
  · rw [u 1 (by decide)]; exact h.a1
  · rw [u 2 (by decide)]; exact h.a2
  · rw [show upd f 3 v 3 = v from pk_us]; exact r
  · rw [u 4 (by decide)]; exact h.a4
  · rw [u 5 (by decide)]; exact h.a5
  · rw [u 6 (by decide)]; exact h.a6
  · intro i h1 h2; rw [u i (by omega)]; exact h.at_in i h1 h2
  · intro b hb hp; rw [u 0 (by decide)] at hp; rw [u _ (by omega), u _ (by omega)]; exact h.at_tm b hb hp
  · intro i h1 h2; rw [u i (by omega)]; exact h.at_se i h1 h2
  · intro i h1 h2; rw [u i (by omega)]; exact h.at_cr i h1 h2
  · rw [u 132 (by decide)]; exact h.a132
  · intro b c; rw [u 0 (by decide), u _ (by omega), u _ (by omega)]; exact h.inj b c
  · intro j k h1 h2; rw [u _ (by omega), u _ (by omega)]; exact h.sinj j k h1 h2
theorem si_io {f : Nat → Int32} {v : Int32} {b : Nat} (h : SI f) (hb : b < 8) (r : Rg (-1) 7 v) (hd : 0 ≤ v.toInt → ∀ j, j < cN (f 0) → f (10 + j) ≠ v) : SI (upd f (10 + b) v) := by
  have u : ∀ j, j ≠ 10 + b → upd f (10 + b) v j = f j := fun j hj => up_n hj
  have us : upd f (10 + b) v (10 + b) = v := pk_us
  refine ⟨?_, ?_, ?_, ?_, ?_, ?_, ?_, ?_, ?_, ?_, ?_, ?_, ?_, ?_⟩
  · rw [u 0 (by omega)]; exact h.a0
  · rw [u 1 (by omega)]; exact h.a1
  · rw [u 2 (by omega)]; exact h.a2
  · rw [u 3 (by omega)]; exact h.a3
  · rw [u 4 (by omega)]; exact h.a4
  · rw [u 5 (by omega)]; exact h.a5
  · rw [u 6 (by omega)]; exact h.a6
  · intro i h1 h2
    by_cases q : i = 10 + b
    · rw [q, us]; exact r
    · rw [u i q]; exact h.at_in i h1 h2
  · intro c hc hp; rw [u 0 (by omega)] at hp; rw [u _ (by omega), u _ (by omega)]; exact h.at_tm c hc hp
  · intro i h1 h2; rw [u i (by omega)]; exact h.at_se i h1 h2
  · intro i h1 h2; rw [u i (by omega)]; exact h.at_cr i h1 h2
  · rw [u 132 (by omega)]; exact h.a132
  · intro c d
    rw [u 0 (by omega)]
    intro hc hd2 hne hz
    by_cases q : c = b
    · subst q
      rw [us] at hz ⊢
      rw [u (10 + d) (by omega)]
      exact (hd hz d hd2).symm
    · by_cases q2 : d = b
      · subst q2
        rw [us]
        rw [u (10 + c) (by omega)] at hz ⊢
        intro e
        rw [e] at hz
        exact hd hz c hc e
      · rw [u (10 + c) (by omega)] at hz ⊢
        rw [u (10 + d) (by omega)]
        exact h.inj c d hc hd2 hne hz
  · intro j k h1 h2; rw [u _ (by omega), u _ (by omega)]; exact h.sinj j k h1 h2
/-- what was said ahead of acts -/
def WS1 (f g : Nat → Int32) (j : Nat) : Prop := (∀ b, b < 8 → Rg (-1) 7 (g (9 * j + b))) ∧ Rg 0 9999 (g (9 * j + 8)) ∧ ∀ b c, b < 8 → c < 8 → b < cN (f 0) → c < cN (f 0) → b ≠ c → 0 ≤ (g (9 * j + b)).toInt → g (9 * j + b) ≠ g (9 * j + c)
def WSI (f g : Nat → Int32) (n : Nat) : Prop := ∀ j, j < n → WS1 f g j
theorem ws_0 {f g : Nat → Int32} : WSI f g 0 := fun j hj => absurd hj (Nat.not_lt_zero j)
theorem ws_f {f f2 g : Nat → Int32} {n : Nat} (h : WSI f g n) (e : f2 0 = f 0) : WSI f2 g n := fun j hj => ⟨(h j hj).1, (h j hj).2.1, by rw [e]; exact (h j hj).2.2⟩
theorem ws_shift {f g g2 : Nat → Int32} (h : WSI f g 20) (hg : ∀ j, j < 171 → g2 j = g (j + 9)) : WSI f g2 19 := by
  intro j hj
  obtain ⟨h1, h2, h3⟩ := h (j + 1) (by omega)
  have e : ∀ b, b < 9 → g2 (9 * j + b) = g (9 * (j + 1) + b) := fun b hb => by
    rw [hg _ (by omega)]; congr 1; omega
  refine ⟨fun b hb => by rw [e b (by omega)]; exact h1 b hb, by rw [e 8 (by decide)]; exact h2, fun b c hb hc => ?_⟩
  rw [e b (by omega), e c (by omega)]
  exact h3 b c hb hc
theorem ws_keep {f g g2 : Nat → Int32} {n : Nat} (hs : SI f) (h : WSI f g n) (h1 : ∀ j, j < 9 * n → g2 j = g j) (h2 : ∀ b, b < 8 → g2 (9 * n + b) = f (10 + b)) (h3 : g2 (9 * n + 8) = f 3) : WSI f g2 (n + 1) := by
  intro j hj
  rcases Nat.lt_or_ge j n with q | q
  · obtain ⟨a1, a2, a3⟩ := h j q
    refine ⟨fun b hb => by rw [h1 _ (by omega)]; exact a1 b hb, by rw [h1 _ (by omega)]; exact a2, fun b c hb hc => ?_⟩
    rw [h1 _ (by omega), h1 _ (by omega)]
    exact a3 b c hb hc
  · have e : j = n := by omega
    subst e
    refine ⟨fun b hb => by rw [h2 b hb]; exact hs.at_in _ (by omega) (by omega), by rw [h3]; exact hs.a3, fun b c hb hc q1 q2 => ?_⟩
    rw [h2 b hb, h2 c hc]
    exact hs.inj b c q1 q2
theorem si_back {f f2 g : Nat → Int32} {n : Nat} (hs : SI f) (h : WS1 f g n) (h1 : ∀ i, i < 133 → i ≠ 3 → (i < 10 ∨ 18 ≤ i) → f2 i = f i) (h2 : ∀ b, b < 8 → f2 (10 + b) = g (9 * n + b)) (h3 : f2 3 = g (9 * n + 8)) : SI f2 := by
  obtain ⟨a1, a2, a3⟩ := h
  have h8 : cN (f 0) ≤ 8 := cN_le hs.a0 (by decide)
  have u : ∀ i, i < 133 → i ≠ 3 → (i < 10 ∨ 18 ≤ i) → f2 i = f i := h1
  refine ⟨?_, ?_, ?_, ?_, ?_, ?_, ?_, ?_, ?_, ?_, ?_, ?_, ?_, ?_⟩
  · rw [u 0 (by decide) (by decide) (by decide)]; exact hs.a0
  · rw [u 1 (by decide) (by decide) (by decide)]; exact hs.a1
  · rw [u 2 (by decide) (by decide) (by decide)]; exact hs.a2
  · rw [h3]; exact a2
  · rw [u 4 (by decide) (by decide) (by decide)]; exact hs.a4
  · rw [u 5 (by decide) (by decide) (by decide)]; exact hs.a5
  · rw [u 6 (by decide) (by decide) (by decide)]; exact hs.a6
  · intro i q1 q2
    have e : i = 10 + (i - 10) := by omega
    rw [e, h2 _ (by omega)]; exact a1 _ (by omega)
  · intro c hc hp; rw [u 0 (by decide) (by decide) (by decide)] at hp; rw [u _ (by omega) (by omega) (by omega), u _ (by omega) (by omega) (by omega)]; exact hs.at_tm c hc hp
  · intro i q1 q2; rw [u i (by omega) (by omega) (by omega)]; exact hs.at_se i q1 q2
  · intro i q1 q2; rw [u i (by omega) (by omega) (by omega)]; exact hs.at_cr i q1 q2
  · rw [u 132 (by decide) (by decide) (by decide)]; exact hs.a132
  · intro b c
    rw [u 0 (by decide) (by decide) (by decide)]
    intro hb hc
    rw [h2 b (by omega), h2 c (by omega)]
    exact a3 b c (by omega) (by omega) hb hc
  · intro j k q1 q2; rw [u _ (by omega) (by omega) (by omega), u _ (by omega) (by omega) (by omega)]; exact hs.sinj j k q1 q2
/-- how many may be, of the first so many -/
def cntF (f : Nat → Int32) (c : Nat) : Nat → Nat
  | 0 => 0
  | t + 1 => cntF f c t + if blF f c t < 0 then 0 else 1
theorem cnt_le (f : Nat → Int32) (c t : Nat) : cntF f c t ≤ t := by
  induction t with
  | zero => exact Nat.le_refl _
  | succ t ih => show cntF f c t + (if blF f c t < 0 then 0 else 1) ≤ t + 1; split <;> omega
theorem cnt_y {f : Nat → Int32} {c t : Nat} {x : Int32} (e : x = blF f c t) (h : ¬ x < 0) : cntF f c (t + 1) = cntF f c t + 1 := by
  show cntF f c t + (if blF f c t < 0 then 0 else 1) = _
  rw [← e, if_neg h]
theorem cnt_n {f : Nat → Int32} {c t : Nat} {x : Int32} (e : x = blF f c t) (h : x < 0) : cntF f c (t + 1) = cntF f c t := by
  show cntF f c t + (if blF f c t < 0 then 0 else 1) = _
  rw [← e, if_pos h, Nat.add_zero]
theorem do_rg {f : Nat → Int32} (hs : SI f) {z y w : Int32} {t : Nat} (ez : z = f 3) (ey : y = tmF f t) (ew : w = z + y) (hm : MAY f t) (ht : t < 72) : Rg 0 9999 w := by
  have r1 := hs.a3
  have r2 := tm_rg hs hm.1 ht
  have e : w = f 3 + tmF f t := by rw [ew, ez, ey]
  have h := Rg.addE e r1 r2 (by decide)
  have h2 := hm.2.1
  rw [← e] at h2
  exact ⟨by have := r1.1; have := r2.1; omega, h2⟩
theorem si_ix {f : Nat → Int32} {i v : Int32} {b : Nat} (h : SI f) (e : cN i = 10 + b) (hb : b < 8) (r : Rg (-1) 7 v) (hd : 0 ≤ v.toInt → ∀ j, j < cN (f 0) → f (10 + j) ≠ v) : SI (upd f (cN i) v) := by
  rw [e]; exact si_io h hb r hd
theorem si_do {f g : Nat → Int32} {b q u i v : Int32} {lo hi : Int} (h : SI g) (hs : SI f) (rb : Rg lo hi b) (hh : 8 ≤ lo ∧ hi ≤ 71) (e1 : q = b / 8) (e2 : u = 10 + q) (e3 : i = u - 1) (e4 : v = b - b / 8 * 8) (hm : MAY f (cN b)) (hg : g 0 = f 0 ∧ ∀ j, j < 8 → g (10 + j) = f (10 + j)) : SI (upd g (cN i) v) := by
  have hb := cN_i rb (by omega)
  have r1 := rb.1; have r2 := rb.2
  have ev := t8r rb (by omega) e4
  have eb := cN_nI rb (by omega)
  have ei : i = nI (10 + (cN b / 8 - 1)) := by
    rw [e3, e2, e1, eb, show (8 : Int32) = nI 8 from rfl, pk_div (by omega) (by decide) (by decide), ← eb, show (10 : Int32) = nI 10 from rfl, nI_add, show (1 : Int32) = nI 1 from rfl, pk_sub (by omega)]
    congr 1; omega
  have ec : cN i = 10 + (cN b / 8 - 1) := cN_of ei (by omega)
  have evv : v = nI (cN b % 8) := by
    rw [e4, eb, show (8 : Int32) = nI 8 from rfl, pk_rem (by omega) (by decide) (by decide), ← eb]
  have h8 : cN (g 0) ≤ 8 := cN_le h.a0 (by decide)
  rw [ec]
  refine si_io h (by omega) (by rw [evv]; exact nI_r (by omega) (by omega)) (fun _ j hj q => ?_)
  rw [hg.1] at hj
  have hj8 : j < 8 := by rw [hg.1] at h8; omega
  rw [hg.2 j hj8, evv] at q
  exact hm.2.2 (by omega) j hj q
theorem do_same {f : Nat → Int32} {v : Int32} : upd f 3 v 0 = f 0 ∧ ∀ j, j < 8 → upd f 3 v (10 + j) = f (10 + j) := ⟨up_n (by decide), fun j hj => up_n (by omega)⟩
