/-! ===== the reference: codes on a stack, and the reading of them ===== -/
def stp (x : Int32) (d : Nat) : Option Nat :=
  if x < 0 then none
  else if cN x % 16 = 0 then (if d < 60 then some (d + 1) else none)
  else if cN x % 16 = 1 then (if d < 60 ∧ cN x / 16 < 12 then some (d + 1) else none)
  else if cN x % 16 = 11 then (if 1 ≤ d then some d else none)
  else if 2 ≤ d then some (d - 1) else none
def runD (g : Nat → Int32) (p : Nat) : Nat → Option Nat
  | 0 => some 0
  | n + 1 => match runD g p n with
    | none => none
    | some d => stp (g (p + n)) d
def RD (g : Nat → Int32) (p q d : Nat) : Prop := p ≤ q ∧ runD g p (q - p) = some d
theorem runD_same {g g2 : Nat → Int32} {p n : Nat} (h : ∀ j, j < n → g2 (p + j) = g (p + j)) : runD g2 p n = runD g p n := by
  induction n with
  | zero => rfl
  | succ n ih =>
    show (match runD g2 p n with | none => none | some d => stp (g2 (p + n)) d) = (match runD g p n with | none => none | some d => stp (g (p + n)) d)
    rw [ih (fun j hj => h j (by omega)), h n (by omega)]
theorem RD.same {g g2 : Nat → Int32} {p q d : Nat} (h : RD g p q d) (hs : ∀ j, j < q → g2 j = g j) : RD g2 p q d := ⟨h.1, by rw [runD_same (g := g) (fun j hj => hs _ (by have := h.1; omega))]; exact h.2⟩
theorem RD.nil (g : Nat → Int32) (p : Nat) : RD g p p 0 := ⟨Nat.le_refl _, by rw [Nat.sub_self]; rfl⟩
theorem RD.push {g : Nat → Int32} {p q d e : Nat} {x : Int32} (h : RD g p q d) (hx : stp x d = some e) : RD (upd g q x) p (q + 1) e := by
  obtain ⟨h1, h2⟩ := h
  refine ⟨by omega, ?_⟩
  rw [show q + 1 - p = (q - p) + 1 by omega]
  show (match runD (upd g q x) p (q - p) with | none => none | some d => stp (upd g q x (p + (q - p))) d) = some e
  rw [runD_same (g := g) (fun j hj => up_n (by omega)), h2, show p + (q - p) = q by omega, pk_us]
  exact hx
theorem runD_pre {g : Nat → Int32} {p : Nat} : ∀ n d, runD g p n = some d → ∀ i, i ≤ n → ∃ e, runD g p i = some e := by
  intro n
  induction n with
  | zero =>
    intro d h i hi
    have e : i = 0 := Nat.le_zero.mp hi
    rw [e]
    exact ⟨d, h⟩
  | succ n ih =>
    intro d h i hi
    by_cases q : i = n + 1
    · rw [q]; exact ⟨d, h⟩
    · have h2 : (match runD g p n with | none => none | some d => stp (g (p + n)) d) = some d := h
      cases h3 : runD g p n with
      | none => rw [h3] at h2; exact absurd h2 (by simp)
      | some e => exact ih e h3 i (by omega)
theorem runD_st {g : Nat → Int32} {p n d : Nat} (h : runD g p (n + 1) = some d) : ∃ e, runD g p n = some e ∧ stp (g (p + n)) e = some d := by
  have h2 : (match runD g p n with | none => none | some d => stp (g (p + n)) d) = some d := h
  cases h3 : runD g p n with
  | none => rw [h3] at h2; exact absurd h2 (by simp)
  | some e => rw [h3] at h2; exact ⟨e, rfl, h2⟩
theorem stp_le {x : Int32} {d e : Nat} (h : stp x d = some e) (hd : d ≤ 60) : e ≤ 60 := by
  unfold stp at h
  split at h
  · exact absurd h (by simp)
  · split at h
    · split at h
      · have := Option.some.inj h; omega
      · exact absurd h (by simp)
    · split at h
      · split at h
        · have := Option.some.inj h; omega
        · exact absurd h (by simp)
      · split at h
        · split at h
          · have := Option.some.inj h; omega
          · exact absurd h (by simp)
        · split at h
          · have := Option.some.inj h; omega
          · exact absurd h (by simp)
theorem runD_le {g : Nat → Int32} {p : Nat} : ∀ n d, runD g p n = some d → d ≤ 60 := by
  intro n
  induction n with
  | zero => intro d h; have := Option.some.inj h; omega
  | succ n ih => intro d h; obtain ⟨e, h1, h2⟩ := runD_st h; exact stp_le h2 (ih e h1)
def PS (sta snx ste sma : Int32) (gln gsg : Nat → Int32) (kk p0 d : Nat) : Prop :=
  Rg 0 400 sta ∧ 0 ≤ snx.toInt ∧ snx.toInt ≤ sta.toInt ∧ Rg 0 5 ste ∧ Rg 0 60 sma ∧ 0 ≤ (gln (cN ste)).toInt ∧ (gln (cN ste)).toInt + kk ≤ snx.toInt ∧ d ≤ cN sma ∧ RD gsg p0 (400 * cN ste + cN (gln (cN ste))) d
/-- what stays of the codes -/
def KP (g0 l0 g l : Nat → Int32) (t : Nat) : Prop := (∀ j, j < 400 * t + cN (l0 t) → g j = g0 j) ∧ cN (l0 t) ≤ cN (l t)
theorem KP.rfl' {g l : Nat → Int32} {t : Nat} : KP g l g l t := ⟨fun _ _ => rfl, Nat.le_refl _⟩
theorem KP.tr {g0 l0 g l g2 l2 : Nat → Int32} {t : Nat} (h : KP g0 l0 g l t) (h2 : KP g l g2 l2 t) : KP g0 l0 g2 l2 t :=
  ⟨fun j hj => (h2.1 j (by have := h.2; omega)).trans (h.1 j hj), Nat.le_trans h.2 h2.2⟩
def NX (sta a b : Int32) : Prop := a.toInt ≤ b.toInt ∧ b.toInt ≤ sta.toInt
theorem NX.tr {s a b c : Int32} (h : NX s a b) (h2 : NX s b c) : NX s a c := ⟨by have := h.1; have := h2.1; omega, h2.2⟩
theorem PS.adv {sta snx ste sma n2 : Int32} {gln gsg : Nat → Int32} {kk p0 d : Nat} (h : PS sta snx ste sma gln gsg kk p0 d) (hn : NX sta snx n2) : PS sta n2 ste sma gln gsg kk p0 d := by
  obtain ⟨h1, h2, h3, h4, h5, h6, h7, h8, h9⟩ := h
  exact ⟨h1, by have := hn.1; omega, hn.2, h4, h5, h6, by have := hn.1; omega, h8, h9⟩
theorem PS.adv1 {sta snx ste sma n2 : Int32} {gln gsg : Nat → Int32} {kk p0 d : Nat} (h : PS sta snx ste sma gln gsg kk p0 d) (hn : snx.toInt < n2.toInt ∧ n2.toInt ≤ sta.toInt) : PS sta n2 ste sma gln gsg (kk + 1) p0 d := by
  obtain ⟨h1, h2, h3, h4, h5, h6, h7, h8, h9⟩ := h
  exact ⟨h1, by have := hn.1; omega, hn.2, h4, h5, h6, by have := hn.1; omega, h8, h9⟩
theorem PS.wk {sta snx ste sma : Int32} {gln gsg : Nat → Int32} {kk k2 p0 d : Nat} (h : PS sta snx ste sma gln gsg kk p0 d) (hk : k2 ≤ kk) : PS sta snx ste sma gln gsg k2 p0 d := by
  obtain ⟨h1, h2, h3, h4, h5, h6, h7, h8, h9⟩ := h
  exact ⟨h1, h2, h3, h4, h5, h6, by omega, h8, h9⟩
theorem PS.made {sta snx ste sma m2 : Int32} {gln gsg : Nat → Int32} {kk p0 d : Nat} (h : PS sta snx ste sma gln gsg kk p0 d) (hm : ¬ sma = 60) (e : m2 = sma + 1) : PS sta snx ste m2 gln gsg kk p0 d ∧ d < cN m2 ∧ d < 60 := by
  obtain ⟨h1, h2, h3, h4, h5, h6, h7, h8, h9⟩ := h
  have r : Rg 0 59 sma := Rg.ne hm h5 (Rg.c (c := 60) (k := 60) rfl) (by decide)
  have ec : cN m2 = cN sma + 1 := cN_add (k := 1) e r (Rg.c rfl) (by decide)
  have := cN_le (n := 59) r (by decide)
  exact ⟨⟨h1, h2, h3, h4, Rg.add e r (Rg.c (c := 1) (k := 1) rfl) (by decide), h6, h7, by omega, h9⟩, by omega, by omega⟩
/-- one more code -/
theorem PS.put {sta snx ste sma x l2 : Int32} {gln gsg : Nat → Int32} {kk p0 d e : Nat} (h : PS sta snx ste sma gln gsg (kk + 1) p0 d) (el : l2 = gln (cN ste) + 1) (hx : stp x d = some e) (he : e ≤ cN sma) : PS sta snx ste sma (upd gln (cN ste) l2) (upd gsg (400 * cN ste + cN (gln (cN ste))) x) kk p0 e ∧ KP gsg gln (upd gsg (400 * cN ste + cN (gln (cN ste))) x) (upd gln (cN ste) l2) (cN ste) := by
  obtain ⟨h1, h2, h3, h4, h5, h6, h7, h8, h9⟩ := h
  have r : Rg 0 399 (gln (cN ste)) := ⟨h6, by have := h1.2; omega⟩
  have ec : cN l2 = cN (gln (cN ste)) + 1 := cN_add (k := 1) el r (Rg.c rfl) (by decide)
  have et := Rg.addE el r (Rg.c (c := 1) (k := 1) rfl) (by decide)
  have e1 : Int32.toInt 1 = 1 := rfl
  have us : upd gln (cN ste) l2 (cN ste) = l2 := pk_us
  refine ⟨⟨h1, h2, h3, h4, h5, by rw [us]; omega, by rw [us]; omega, he, ?_⟩, fun j hj => up_n (by omega), by rw [us]; omega⟩
  rw [us, ec, ← Nat.add_assoc]
  exact h9.push hx
theorem PS.ln {sta snx ste sma : Int32} {gln gsg : Nat → Int32} {kk p0 d : Nat} (h : PS sta snx ste sma gln gsg (kk + 1) p0 d) : Rg 0 399 (gln (cN ste)) := by
  obtain ⟨h1, h2, h3, h4, h5, h6, h7, h8, h9⟩ := h
  exact ⟨h6, by have := h1.2; omega⟩
theorem stp_n {x v : Int32} {d : Nat} (hd : d < 60) (rv : Rg 0 99999 v) {y : Int32} (e1 : y = 16 * v) (e2 : x = 0 + y) : stp x d = some (d + 1) := by
  have ev := cN_nI rv (by decide)
  have hv : cN v ≤ 99999 := cN_le rv (by decide)
  have e : x = nI (16 * cN v) := by rw [e2, e1, ev, show (16 : Int32) = nI 16 from rfl, pk_mul, show (0 : Int32) = nI 0 from rfl, nI_add, Nat.zero_add, ← ev]
  have ec : cN x = 16 * cN v := cN_of e (by omega)
  have nn : ¬ x < 0 := by rw [e]; exact nI_pos (by omega)
  unfold stp
  rw [if_neg nn, if_pos (by omega), if_pos hd]
theorem stp_w {x v : Int32} {d : Nat} (hd : d < 60) (rv : Rg 0 11 v) {y : Int32} (e1 : y = 16 * v) (e2 : x = 1 + y) : stp x d = some (d + 1) := by
  have ev := cN_nI rv (by decide)
  have hv : cN v ≤ 11 := cN_le rv (by decide)
  have e : x = nI (1 + 16 * cN v) := by rw [e2, e1, ev, show (16 : Int32) = nI 16 from rfl, pk_mul, show (1 : Int32) = nI 1 from rfl, nI_add, ← ev]
  have ec : cN x = 1 + 16 * cN v := cN_of e (by omega)
  have nn : ¬ x < 0 := by rw [e]; exact nI_pos (by omega)
  unfold stp
  rw [if_neg nn, if_neg (by omega), if_pos (by omega), if_pos ⟨hd, by omega⟩]
def BIN (s : Nat) : Prop := 2 ≤ s ∧ s ≤ 14 ∧ s ≠ 11
theorem stp_b {x s : Int32} {d : Nat} (rs : Rg 2 14 s) (h11 : cN s ≠ 11) {y : Int32} (e1 : y = 16 * (0 : Int32)) (e2 : x = s + y) (hd : 2 ≤ d) : stp x d = some (d - 1) := by
  have es := cN_nI rs (by decide)
  have h1 := cN_i rs (by decide)
  have := rs.1; have := rs.2
  have e : x = s := by
    rw [e2, e1, show (16 : Int32) * 0 = nI 0 from rfl, es, nI_add, Nat.add_zero, ← es]
  have nn : ¬ x < 0 := by rw [e, i_lt]; have e0 : Int32.toInt 0 = 0 := rfl; omega
  unfold stp
  rw [e] at nn ⊢
  rw [if_neg nn, if_neg (by omega), if_neg (by omega), if_neg (by omega), if_pos hd]
theorem stp_11 {x s : Int32} {d : Nat} (h11 : s = 11) {y : Int32} (e1 : y = 16 * (0 : Int32)) (e2 : x = s + y) (hd : 1 ≤ d) : stp x d = some d := by
  have e : x = 11 := by rw [e2, e1, h11]; rfl
  unfold stp
  rw [e, if_neg (by decide), if_neg (by decide), if_neg (by decide), if_pos (by decide), if_pos hd]
/-- a small letter lies there -/
def LT (g : Nat → Int32) (sta k : Int32) : Prop := k < sta ∧ ¬ g (cN k) < 97 ∧ ¬ 122 < g (cN k)
def DG (g : Nat → Int32) (sta k : Int32) : Prop := k < sta ∧ ¬ g (cN k) < 48 ∧ ¬ 57 < g (cN k)
theorem lt_rg {k s : Int32} {lo hi lo2 hi2 : Int} (h : k < s) (r : Rg lo hi k) (rs : Rg lo2 hi2 s) (hh : hi2 ≤ 400 := by decide) : Rg lo 399 k := by
  rw [i_lt] at h
  have := rs.2
  exact ⟨r.1, by omega⟩
