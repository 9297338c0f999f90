/-! ===== the reference: searches ===== -/
def smN (p : Nat → Nat) : Nat → Nat
  | 0 => 0
  | n + 1 => smN p n + p n
theorem sm_same {p q : Nat → Nat} {n : Nat} (h : ∀ j, j < n → p j = q j) : smN p n = smN q n := by
  induction n with
  | zero => rfl
  | succ n ih => show smN p n + p n = smN q n + q n; rw [ih (fun j hj => h j (by omega)), h n (by omega)]
theorem sm_upd {p q : Nat → Nat} {k : Nat} : ∀ n, k < n → (∀ j, j < n → j ≠ k → q j = p j) → smN q n + p k = smN p n + q k := by
  intro n
  induction n with
  | zero => intro h; exact absurd h (Nat.not_lt_zero k)
  | succ n ih =>
    intro hk h
    show smN q n + q n + p k = smN p n + p n + q k
    by_cases e : k = n
    · subst e
      rw [sm_same (p := q) (q := p) (fun j hj => h j (by omega) (by omega))]
      omega
    · have := ih (by omega) (fun j hj hne => h j (by omega) hne)
      rw [h n (by omega) (by omega)]
      omega
theorem sm_le {p : Nat → Nat} {b : Nat} (h : ∀ j, p j ≤ b) : ∀ n, smN p n ≤ n * b := by
  intro n
  induction n with
  | zero => show 0 ≤ 0 * b; omega
  | succ n ih =>
    show smN p n + p n ≤ (n + 1) * b
    have := h n
    rw [Nat.add_mul]; omega
def ph (x : Int32) : Nat := if x < 0 then 6700000 else cN x
def lb1 (x : Int32) : Nat := if x < 0 then 0 else 1
def wt1 (x : Int32) : Nat := if x = 0 then 0 else 1
def PHI (g : Nat → Int32) : Nat := smN (fun c => ph (g c)) 65536
def LCN (g : Nat → Int32) : Nat := smN (fun c => lb1 (g c)) 65536
def WCN (g : Nat → Int32) : Nat := smN (fun c => wt1 (g c)) 65536
theorem lb_le (x : Int32) : lb1 x ≤ 1 := by unfold lb1; split <;> omega
theorem wt_le (x : Int32) : wt1 x ≤ 1 := by unfold wt1; split <;> omega
theorem LCN_le (g : Nat → Int32) : LCN g ≤ 65536 := by
  have h := sm_le (p := fun c => lb1 (g c)) (b := 1) (fun j => lb_le _) 65536
  exact Nat.le_trans h (by decide)
theorem WCN_le (g : Nat → Int32) : WCN g ≤ 65536 := by
  have h := sm_le (p := fun c => wt1 (g c)) (b := 1) (fun j => wt_le _) 65536
  exact Nat.le_trans h (by decide)
theorem LCN_u {g : Nat → Int32} {k : Nat} {v : Int32} (hk : k < 65536) : LCN (upd g k v) + lb1 (g k) = LCN g + lb1 v := by
  have h : smN (fun c => lb1 (upd g k v c)) 65536 + lb1 (g k) = smN (fun c => lb1 (g c)) 65536 + lb1 (upd g k v k) := sm_upd (p := fun c => lb1 (g c)) (q := fun c => lb1 (upd g k v c)) (k := k) 65536 hk (fun j _ hne => by show lb1 (upd g k v j) = lb1 (g j); rw [up_n hne])
  rw [show upd g k v k = v from pk_us] at h; exact h
theorem PHI_u {g : Nat → Int32} {k : Nat} {v : Int32} (hk : k < 65536) : PHI (upd g k v) + ph (g k) = PHI g + ph v := by
  have h : smN (fun c => ph (upd g k v c)) 65536 + ph (g k) = smN (fun c => ph (g c)) 65536 + ph (upd g k v k) := sm_upd (p := fun c => ph (g c)) (q := fun c => ph (upd g k v c)) (k := k) 65536 hk (fun j _ hne => by show ph (upd g k v j) = ph (g j); rw [up_n hne])
  rw [show upd g k v k = v from pk_us] at h; exact h
theorem WCN_u {g : Nat → Int32} {k : Nat} {v : Int32} (hk : k < 65536) : WCN (upd g k v) + wt1 (g k) = WCN g + wt1 v := by
  have h : smN (fun c => wt1 (upd g k v c)) 65536 + wt1 (g k) = smN (fun c => wt1 (g c)) 65536 + wt1 (upd g k v k) := sm_upd (p := fun c => wt1 (g c)) (q := fun c => wt1 (upd g k v c)) (k := k) 65536 hk (fun j _ hne => by show wt1 (upd g k v j) = wt1 (g j); rw [up_n hne])
  rw [show upd g k v k = v from pk_us] at h; exact h
/-- marks: of situations alone, and not too far -/
def FAR (g : Nat → Int32) : Prop := ∀ c, c < 65536 → -1 ≤ (g c).toInt ∧ (g c).toInt ≤ 101 * (LCN g : Int) ∧ (0 ≤ (g c).toInt → pc (c % 256) = pc (c / 256))
def QBK (g : Nat → Int32) : Prop := ∀ j, j < 65536 → BK (g j)
def SRC (gf gq gw : Nat → Int32) (sf sw : Int32) : Prop := FAR gf ∧ QBK gq ∧ Rg 0 65535 sf ∧ 0 ≤ sw.toInt ∧ sw.toInt ≤ (WCN gw : Int)
theorem FAR.rg {g : Nat → Int32} (h : FAR g) {c : Int32} {lo hi : Int} (r : Rg lo hi c) (hh : 0 ≤ lo ∧ hi < 65536) : Rg (-1) 6619136 (g (cN c)) := by
  obtain ⟨h1, h2, -⟩ := h (cN c) (cN_lt (n := 65536) r hh)
  have := LCN_le g
  exact ⟨h1, by omega⟩
theorem FAR.bk {g : Nat → Int32} (h : FAR g) {c z : Int32} (r : Rg 0 65535 c) (e : z = g (cN c)) (hz : ¬ z < 0) : BK c := by
  obtain ⟨-, -, h3⟩ := h (cN c) (cN_lt (n := 65536) r (by decide))
  refine ⟨r, h3 ?_⟩
  rw [← e]; rw [i_lt] at hz
  have e0 : Int32.toInt 0 = 0 := rfl
  omega
theorem SRC.rw {gf gq gw : Nat → Int32} {sf sw : Int32} (h : SRC gf gq gw sf sw) : Rg 0 65536 sw := by
  obtain ⟨-, -, -, h1, h2⟩ := h
  have := WCN_le gw
  exact ⟨h1, by omega⟩
def MES (gf : Nat → Int32) (sw : Int32) : Nat := 2 * PHI gf + cN sw
theorem cl_st {g : Nat → Int32} {c : Int32} {v : Int32} (h : ∀ j, j < cN c → g j = v) : ∀ j, j < cN c + 1 → upd g (cN c) v j = v := by
  intro j hj
  by_cases q : j = cN c
  · rw [q, pk_us]
  · rw [up_n q]; exact h j (by omega)
theorem cl_src {gf gq gw : Nat → Int32} {c : Int32} (h : ∀ j, j < cN c → gf j = -1) (hc : cN 65536 ≤ cN c) (hq : QBK gq) : SRC gf gq gw 0 0 := by
  have e : cN 65536 = 65536 := rfl
  refine ⟨fun j hj => ?_, hq, ⟨by decide, by decide⟩, by decide, ?_⟩
  · rw [h j (by omega)]
    exact ⟨by decide, by have e1 : (-1 : Int32).toInt = -1 := rfl; omega, fun z => absurd z (by decide)⟩
  · have e0 : Int32.toInt 0 = 0 := rfl
    omega
/-- a new mark -/
theorem co_far {gf : Nat → Int32} {a n z : Int32} (h : FAR gf) (ha : BK a) (h0 : 0 ≤ n.toInt) (hn : n.toInt ≤ 101 * (LCN gf : Int) + 101) (ez : z = gf (cN a)) (hc : z < 0 ∨ n < z) : FAR (upd gf (cN a) n) ∧ PHI (upd gf (cN a) n) + 1 ≤ PHI gf := by
  have ha2 : cN a < 65536 := cN_lt ha.1 (by decide)
  have hl := LCN_u (g := gf) (v := n) ha2
  have hp := PHI_u (g := gf) (v := n) ha2
  have hL := LCN_le gf
  have hL2 := LCN_le (upd gf (cN a) n)
  have nn : ¬ n < 0 := by rw [i_lt]; have e0 : Int32.toInt 0 = 0 := rfl; omega
  have ln : lb1 n = 1 := by unfold lb1; rw [if_neg nn]
  have pn : ph n = cN n := by unfold ph; rw [if_neg nn]
  have cn : ((cN n : Nat) : Int) = n.toInt := Int.toNat_of_nonneg h0
  rw [ln] at hl
  rw [pn] at hp
  obtain ⟨f1, f2, -⟩ := h (cN a) ha2
  rw [← ez] at hl hp f1 f2
  have key : n.toInt ≤ 101 * (LCN (upd gf (cN a) n) : Int) ∧ LCN gf ≤ LCN (upd gf (cN a) n) ∧ PHI (upd gf (cN a) n) + 1 ≤ PHI gf := by
    by_cases q : z < 0
    · have lz : lb1 z = 0 := by unfold lb1; rw [if_pos q]
      have pz : ph z = 6700000 := by unfold ph; rw [if_pos q]
      rw [lz] at hl; rw [pz] at hp
      have hn2 : n.toInt ≤ 101 * (LCN (upd gf (cN a) n) : Int) := by omega
      exact ⟨hn2, by omega, by omega⟩
    · have lz : lb1 z = 1 := by unfold lb1; rw [if_neg q]
      have pz : ph z = cN z := by unfold ph; rw [if_neg q]
      have hz0 : 0 ≤ z.toInt := by rw [i_lt] at q; have e0 : Int32.toInt 0 = 0 := rfl; omega
      have cz : ((cN z : Nat) : Int) = z.toInt := Int.toNat_of_nonneg hz0
      rw [lz] at hl; rw [pz] at hp
      have hlt : n.toInt < z.toInt := by rcases hc with y | y; exact absurd y q; exact (i_lt _ _).mp y
      exact ⟨by omega, by omega, by omega⟩
  refine ⟨fun c hc2 => ?_, key.2.2⟩
  by_cases q : c = cN a
  · rw [q, pk_us]
    exact ⟨by omega, key.1, fun _ => ha.2⟩
  · rw [up_n q]
    obtain ⟨b1, b2, b3⟩ := h c hc2
    exact ⟨b1, by omega, b3⟩
theorem co_end {gf gq gw : Nat → Int32} {sf sw a n z : Int32} (h : SRC gf gq gw sf sw) (ha : BK a) (h0 : 0 ≤ n.toInt) (hn : n.toInt ≤ 101 * (LCN gf : Int) + 101) (ez : z = gf (cN a)) (hc : z < 0 ∨ n < z) : SRC (upd gf (cN a) n) gq gw sf sw ∧ MES (upd gf (cN a) n) sw + 2 ≤ MES gf sw := by
  obtain ⟨h1, h2, h3, h4, h5⟩ := h
  obtain ⟨k1, k2⟩ := co_far h1 ha h0 hn ez hc
  exact ⟨⟨k1, h2, h3, h4, h5⟩, by unfold MES; omega⟩
theorem co_q {gf gq gw : Nat → Int32} {sf sw a y i w2 : Int32} (h : SRC gf gq gw sf sw) (ha : BK a) (ey : y = gw (cN a)) (hy : y = 0) (ew : w2 = sw + 1) : SRC gf (upd gq (cN i) a) (upd gw (cN a) 1) sf w2 ∧ MES gf w2 = MES gf sw + 1 := by
  have hr := h.rw
  obtain ⟨h1, h2, h3, h4, h5⟩ := h
  have ha2 : cN a < 65536 := cN_lt ha.1 (by decide)
  have hw := WCN_u (g := gw) (v := 1) ha2
  rw [← ey, hy, show wt1 0 = 0 from rfl, show wt1 1 = 1 from rfl] at hw
  have e := Rg.addE ew hr (Rg.c (c := 1) (k := 1) rfl) (by decide)
  have e1 : Int32.toInt 1 = 1 := rfl
  have ec : cN w2 = cN sw + 1 := cN_add (k := 1) ew hr (Rg.c rfl) (by decide)
  refine ⟨⟨h1, fun j hj => ?_, h3, by omega, by omega⟩, by unfold MES; omega⟩
  by_cases q : j = cN i
  · rw [q, pk_us]; exact ha
  · rw [up_n q]; exact h2 j hj
theorem nx_x {gf gq gw : Nat → Int32} {sf sw w2 f1 f2 r : Int32} (h : SRC gf gq gw sf sw) (hp : 0 < sw) (er : r = gq (cN sf)) (e1 : f1 = sf + 1) (e2 : f2 = f1 - f1 / 65536 * 65536) (ew : w2 = sw - 1) : SRC gf gq (upd gw (cN r) 0) f2 w2 ∧ MES gf w2 + 1 = MES gf sw ∧ BK r := by
  have hr := h.rw
  obtain ⟨h1, h2, h3, h4, h5⟩ := h
  have hb : BK r := by rw [er]; exact h2 _ (cN_lt h3 (by decide))
  have hr2 : cN r < 65536 := cN_lt hb.1 (by decide)
  have hw := WCN_u (g := gw) (v := 0) hr2
  rw [show wt1 0 = 0 from rfl] at hw
  have hle := wt_le (gw (cN r))
  have hp2 : 0 < sw.toInt := by rw [i_lt] at hp; have e0 : Int32.toInt 0 = 0 := rfl; omega
  have rw2 : Rg 1 65536 sw := ⟨by omega, hr.2⟩
  have e := Rg.subE ew rw2 (Rg.c (c := 1) (k := 1) rfl) (by decide)
  have e1' : Int32.toInt 1 = 1 := rfl
  have cs := cN_i hr (by decide)
  have cw : ((cN w2 : Nat) : Int) = w2.toInt := Int.toNat_of_nonneg (by omega)
  refine ⟨⟨h1, h2, Rg.rem e2 (Rg.add e1 h3 (Rg.c (c := 1) (k := 1) rfl) (lo := 0) (hi := 65536) (by decide)) (Rg.c (c := 65536) (k := 65536) rfl) (by decide), by omega, by omega⟩, by unfold MES; omega, hb⟩
theorem lb_in {gf : Nat → Int32} {c z t n : Int32} (h : FAR gf) (hc : BK c) (ez : z = gf (cN c)) (rt : Rg 1 101 t) (en : n = z + t) : 0 ≤ n.toInt ∧ n.toInt ≤ 101 * (LCN gf : Int) + 101 := by
  obtain ⟨h1, h2, -⟩ := h (cN c) (cN_lt (n := 65536) hc.1 (by decide))
  rw [← ez] at h1 h2
  have hL := LCN_le gf
  have rz : Rg (-1) 6619136 z := ⟨h1, by omega⟩
  have e := Rg.addE en rz rt (by decide)
  have := rt.1; have := rt.2
  exact ⟨by omega, by omega⟩
theorem lb_0 {gf : Nat → Int32} : 0 ≤ Int32.toInt 0 ∧ Int32.toInt 0 ≤ 101 * (LCN gf : Int) + 101 := ⟨by decide, by have e0 : Int32.toInt 0 = 0 := rfl; omega⟩
