/-! ===== the reference: clauses of a rule, and rules ===== -/
theorem PS.fresh {sta snx ste sma : Int32} {gln gsg : Nat → Int32} {kk p0 d : Nat} (h : PS sta snx ste sma gln gsg kk p0 d) : PS sta snx ste sma gln gsg kk (400 * cN ste + cN (gln (cN ste))) 0 := by
  obtain ⟨h1, h2, h3, h4, h5, h6, h7, h8, h9⟩ := h
  exact ⟨h1, h2, h3, h4, h5, h6, h7, Nat.zero_le _, RD.nil _ _⟩
theorem PS.rd {sta snx ste sma : Int32} {gln gsg : Nat → Int32} {kk p0 d : Nat} (h : PS sta snx ste sma gln gsg kk p0 d) : RD gsg p0 (400 * cN ste + cN (gln (cN ste))) d := by
  obtain ⟨h1, h2, h3, h4, h5, h6, h7, h8, h9⟩ := h
  exact h9
theorem PS.ln4 {sta snx ste sma : Int32} {gln gsg : Nat → Int32} {kk p0 d : Nat} (h : PS sta snx ste sma gln gsg kk p0 d) : Rg 0 400 (gln (cN ste)) := by
  obtain ⟨h1, h2, h3, h4, h5, h6, h7, h8, h9⟩ := h
  exact ⟨h6, by have := h1.2; omega⟩
theorem RD.kp {g0 l0 g l : Nat → Int32} {t p d : Nat} (h : RD g0 p (400 * t + cN (l0 t)) d) (k : KP g0 l0 g l t) : RD g p (400 * t + cN (l0 t)) d := h.same k.1
/-- a clause: its sum's codes leave one number, its test's codes at least one; all end ahead of L -/
def CW (g c : Nat → Int32) (t i L : Nat) : Prop :=
  Rg 0 400 (c i) ∧ Rg 0 400 (c (i + 1)) ∧ RD g (400 * t + cN (c i)) (400 * t + cN (c (i + 1))) 1 ∧ cN (c (i + 1)) ≤ L ∧ Rg (-1) 400 (c (i + 2)) ∧
  (¬ c (i + 2) < 0 → Rg 0 400 (c (i + 3)) ∧ cN (c (i + 3)) ≤ L ∧ ∃ d, 1 ≤ d ∧ RD g (400 * t + cN (c (i + 2))) (400 * t + cN (c (i + 3))) d)
def CV (g c : Nat → Int32) (t n L : Nat) : Prop := ∀ k, k < n → CW g c t (48 * t + 4 * k) L
def RV (g c s : Nat → Int32) (r : Nat) : Prop := ∀ t, t < r → Rg 0 12 (s t) ∧ CV g c t (cN (s t)) 400
theorem CW.keep {g c g2 c2 : Nat → Int32} {t i L L2 : Nat} (h : CW g c t i L) (hg : ∀ j, j < 400 * t + L → g2 j = g j) (hc : ∀ j, j < i + 4 → c2 j = c j) (hL : L ≤ L2) : CW g2 c2 t i L2 := by
  obtain ⟨h1, h2, h3, h4, h5, h6⟩ := h
  have e0 := hc i (by omega)
  have e1 := hc (i + 1) (by omega)
  have e2 := hc (i + 2) (by omega)
  have e3 := hc (i + 3) (by omega)
  unfold CW
  rw [e0, e1, e2, e3]
  refine ⟨h1, h2, h3.same (fun j hj => hg j (by omega)), by omega, h5, fun q => ?_⟩
  obtain ⟨q1, q2, d, q3, q4⟩ := h6 q
  exact ⟨q1, by omega, d, q3, q4.same (fun j hj => hg j (by omega))⟩
theorem CW.of {g c : Nat → Int32} {t i L : Nat} {a b x e : Int32} (e0 : c i = a) (e1 : c (i + 1) = b) (e2 : c (i + 2) = x) (e3 : c (i + 3) = e) (ra : Rg 0 400 a) (rb : Rg 0 400 b) (h1 : RD g (400 * t + cN a) (400 * t + cN b) 1) (hb : cN b ≤ L) (rx : Rg (-1) 400 x)
    (h2 : ¬ x < 0 → Rg 0 400 e ∧ cN e ≤ L ∧ ∃ d, 1 ≤ d ∧ RD g (400 * t + cN x) (400 * t + cN e) d) : CW g c t i L := by
  unfold CW
  rw [e0, e1, e2, e3]
  exact ⟨ra, rb, h1, hb, rx, h2⟩
theorem CV.nil {g c : Nat → Int32} {t L : Nat} : CV g c t 0 L := fun _ h => absurd h (Nat.not_lt_zero _)
theorem CV.keep {g c g2 c2 : Nat → Int32} {t n L L2 : Nat} (h : CV g c t n L) (hg : ∀ j, j < 400 * t + L → g2 j = g j) (hc : ∀ j, j < 48 * t + 4 * n → c2 j = c j) (hL : L ≤ L2) : CV g2 c2 t n L2 :=
  fun k hk => (h k hk).keep hg (fun j hj => hc j (by omega)) hL
theorem CV.more {g c : Nat → Int32} {t n L : Nat} (h : CV g c t n L) (hw : CW g c t (48 * t + 4 * n) L) : CV g c t (n + 1) L := by
  intro k hk
  by_cases q : k = n
  · rw [q]; exact hw
  · exact h k (by omega)
theorem RV.nil {g c s : Nat → Int32} : RV g c s 0 := fun _ h => absurd h (Nat.not_lt_zero _)
theorem RV.keep {g c s g2 c2 s2 : Nat → Int32} {r : Nat} (h : RV g c s r) (hg : ∀ j, j < 400 * r → g2 j = g j) (hc : ∀ j, j < 48 * r → c2 j = c j) (hs : ∀ j, j < r → s2 j = s j) : RV g2 c2 s2 r := by
  intro t ht
  obtain ⟨h1, h2⟩ := h t ht
  rw [hs t ht]
  have := cN_le (n := 12) h1 (by decide)
  exact ⟨h1, h2.keep (fun j hj => hg j (by omega)) (fun j hj => hc j (by omega)) (Nat.le_refl _)⟩
theorem RV.more {g c s : Nat → Int32} {r L : Nat} (h : RV g c s r) (hs : Rg 0 12 (s r)) (hv : CV g c r (cN (s r)) L) (hL : L ≤ 400) : RV g c s (r + 1) := by
  intro t ht
  by_cases q : t = r
  · rw [q]; exact ⟨hs, hv.keep (fun _ _ => rfl) (fun _ _ => rfl) hL⟩
  · exact h t (by omega)
theorem PS.start {sta ste : Int32} {gln gsg : Nat → Int32} (rs : Rg 0 400 sta) (rt : Rg 0 5 ste) : PS sta 0 ste 0 (upd gln (cN ste) 0) gsg 0 (400 * cN ste + cN (upd gln (cN ste) 0 (cN ste))) 0 := by
  have us : upd gln (cN ste) (0 : Int32) (cN ste) = 0 := pk_us
  have e0 : Int32.toInt 0 = 0 := rfl
  exact ⟨rs, by rw [e0]; exact Int.le_refl _, by rw [e0]; exact rs.1, rt, ⟨by decide, by decide⟩, by rw [us, e0]; exact Int.le_refl _, by rw [us, e0]; decide, Nat.zero_le _, RD.nil _ _⟩
theorem ix48 {t n a b y : Int32} (rt : Rg 0 5 t) (rn : Rg 0 11 n) (e1 : a = 48 * t) (e2 : b = 4 * n) (e3 : y = a + b) : cN y = 48 * cN t + 4 * cN n ∧ Rg 0 284 y := by
  have et := cN_nI rt (by decide)
  have en := cN_nI rn (by decide)
  have ht : cN t ≤ 5 := cN_le rt (by decide)
  have hn : cN n ≤ 11 := cN_le rn (by decide)
  have e : y = nI (48 * cN t + 4 * cN n) := by rw [e3, e1, e2, et, en, show (48 : Int32) = nI 48 from rfl, show (4 : Int32) = nI 4 from rfl, pk_mul, pk_mul, nI_add, ← et, ← en]
  have ec : cN y = 48 * cN t + 4 * cN n := cN_of e (by omega)
  have hp : ¬ y < 0 := by rw [e]; exact nI_pos (by omega)
  refine ⟨ec, ?_⟩
  rw [i_lt] at hp
  have e0 : Int32.toInt 0 = 0 := rfl
  have r0 : Rg 0 y.toInt y := ⟨by omega, Int.le_refl _⟩
  have hi := cN_i r0 (by decide)
  exact ⟨by omega, by omega⟩
theorem ch4 {c g1 g2 g3 g4 : Nat → Int32} {i0 i1 i2 i3 n : Nat} {a b x e : Int32} (r1 : g1 = upd c i0 a) (r2 : g2 = upd g1 i1 b) (r3 : g3 = upd g2 i2 x) (r4 : g4 = upd g3 i3 e) (h0 : i0 = n) (h1 : i1 = n + 1) (h2 : i2 = n + 2) (h3 : i3 = n + 3) :
    g4 n = a ∧ g4 (n + 1) = b ∧ g4 (n + 2) = x ∧ g4 (n + 3) = e ∧ ∀ j, j < n → g4 j = c j := by
  subst h0 h1 h2 h3
  refine ⟨?_, ?_, ?_, ?_, fun j hj => ?_⟩
  · rw [r4, up_n (by omega), r3, up_n (by omega), r2, up_n (by omega), r1, pk_us]
  · rw [r4, up_n (by omega), r3, up_n (by omega), r2, pk_us]
  · rw [r4, up_n (by omega), r3, pk_us]
  · rw [r4, pk_us]
  · rw [r4, up_n (by omega), r3, up_n (by omega), r2, up_n (by omega), r1, up_n (by omega)]
theorem ch5 {c g1 g2 g3 g5 g4 : Nat → Int32} {i0 i1 i2 i5 i3 n : Nat} {a b y x e : Int32} (r1 : g1 = upd c i0 a) (r2 : g2 = upd g1 i1 b) (r3 : g3 = upd g2 i2 y) (r5 : g5 = upd g3 i5 x) (r4 : g4 = upd g5 i3 e) (h0 : i0 = n) (h1 : i1 = n + 1) (h2 : i2 = n + 2) (h5 : i5 = n + 2) (h3 : i3 = n + 3) :
    g4 n = a ∧ g4 (n + 1) = b ∧ g4 (n + 2) = x ∧ g4 (n + 3) = e ∧ ∀ j, j < n → g4 j = c j := by
  subst h0 h1 h2 h5 h3
  refine ⟨?_, ?_, ?_, ?_, fun j hj => ?_⟩
  · rw [r4, up_n (by omega), r5, up_n (by omega), r3, up_n (by omega), r2, up_n (by omega), r1, pk_us]
  · rw [r4, up_n (by omega), r5, up_n (by omega), r3, up_n (by omega), r2, pk_us]
  · rw [r4, up_n (by omega), r5, pk_us]
  · rw [r4, pk_us]
  · rw [r4, up_n (by omega), r5, up_n (by omega), r3, up_n (by omega), r2, up_n (by omega), r1, up_n (by omega)]
