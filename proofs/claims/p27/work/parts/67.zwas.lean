/-! ===== the reference: what was ===== -/
theorem ka_st {g0 g : Nat → Int32} {k i v : Int32} {lo hi : Int} (h : (∀ j, j + 9 < cN k → g j = g0 (j + 9)) ∧ ∀ j, cN k ≤ j + 9 → g j = g0 j) (rk : Rg lo hi k) (hh : 9 ≤ lo ∧ hi ≤ 179) (ei : i = k - 9) (ev : v = g (cN k)) : (∀ j, j + 9 < cN k + 1 → upd g (cN i) v j = g0 (j + 9)) ∧ ∀ j, cN k + 1 ≤ j + 9 → upd g (cN i) v j = g0 j := by
  have ek := cN_nI rk (by omega)
  have hk := cN_i rk (by omega)
  have := rk.1; have := rk.2
  have e : cN i = cN k - 9 := by
    refine cN_of (n := cN k - 9) ?_ (by omega)
    rw [ei, ek, show (9 : Int32) = nI 9 from rfl, pk_sub (by omega), ← ek]
  have ev2 : v = g0 (cN k) := by rw [ev, h.2 _ (by omega)]
  refine ⟨fun j hj => ?_, fun j hj => ?_⟩
  · by_cases q : j = cN i
    · rw [q, pk_us, ev2]; congr 1; omega
    · rw [up_n q]; exact h.1 j (by omega)
  · rw [up_n (by omega)]; exact h.2 j (by omega)
theorem ka_0 {g0 : Nat → Int32} : (∀ j, j + 9 < cN 9 → g0 j = g0 (j + 9)) ∧ ∀ j, cN 9 ≤ j + 9 → g0 j = g0 j := ⟨fun j hj => absurd hj (by show ¬ j + 9 < 9; omega), fun _ _ => rfl⟩
theorem ka_nx {g0 g : Nat → Int32} {k x : Int32} (h : (∀ j, j + 9 < cN k + 1 → g j = g0 (j + 9)) ∧ ∀ j, cN k + 1 ≤ j + 9 → g j = g0 j) (e : cN x = cN k + 1) : (∀ j, j + 9 < cN x → g j = g0 (j + 9)) ∧ ∀ j, cN x ≤ j + 9 → g j = g0 j := by rw [e]; exact h
theorem ka_end {f g0 g : Nat → Int32} {k s u : Int32} {lo hi : Int} (hw : WSI f g0 (cN s)) (h : (∀ j, j + 9 < cN k → g j = g0 (j + 9)) ∧ ∀ j, cN k ≤ j + 9 → g j = g0 j) (c : (180 : Int32) ≤ k) (rk : Rg lo hi k) (h0 : 0 ≤ lo) (es : s = 20) (eu : u = s - 1) : WSI f g (cN u) := by
  have h1 := le_cN c (Rg.c (c := 180) (k := 180) rfl) rk ⟨by decide, h0⟩
  have h2 : cN 180 = 180 := rfl
  subst es
  have e : cN u = 19 := by rw [eu]; rfl
  rw [e]
  exact ws_shift hw (fun j hj => h.1 j (by omega))
theorem ix9 {u x y b : Int32} {lo hi lo2 hi2 : Int} (e1 : x = 9 * u) (e2 : y = x + b) (ru : Rg lo hi u) (rb : Rg lo2 hi2 b) (hh : 0 ≤ lo ∧ hi ≤ 100 ∧ 0 ≤ lo2 ∧ hi2 ≤ 100) : cN y = 9 * cN u + cN b := by
  have eu := cN_nI ru hh.1
  have eb := cN_nI rb hh.2.2.1
  have h1 := cN_i ru hh.1; have h2 := cN_i rb hh.2.2.1
  have := ru.2; have := rb.2
  have e : y = nI (9 * cN u + cN b) := by rw [e2, e1, eu, eb, show (9 : Int32) = nI 9 from rfl, pk_mul, nI_add, ← eu, ← eb]
  exact cN_of e (by omega)
theorem kb_st {f g0 g : Nat → Int32} {u i v b : Int32} (h : (∀ j, j < 9 * cN u → g j = g0 j) ∧ ∀ c, c < cN b → g (9 * cN u + c) = f (10 + c)) (ei : cN i = 9 * cN u + cN b) (ev : v = f (10 + cN b)) : (∀ j, j < 9 * cN u → upd g (cN i) v j = g0 j) ∧ ∀ c, c < cN b + 1 → upd g (cN i) v (9 * cN u + c) = f (10 + c) := by
  refine ⟨fun j hj => by rw [up_n (by omega)]; exact h.1 j hj, fun c hc => ?_⟩
  by_cases q : c = cN b
  · rw [q, ei, pk_us, ev]
  · rw [up_n (by omega)]; exact h.2 c (by omega)
theorem kb_end {f g0 g : Nat → Int32} {u i v b w : Int32} (hs : SI f) (hw : WSI f g0 (cN u)) (h : (∀ j, j < 9 * cN u → g j = g0 j) ∧ ∀ c, c < cN b → g (9 * cN u + c) = f (10 + c)) (hb : 8 ≤ cN b) (ei : cN i = 9 * cN u + cN 8) (ev : v = f 3) (ew : cN w = cN u + 1) : WSI f (upd g (cN i) v) (cN w) := by
  have e8 : cN 8 = 8 := rfl
  rw [ew]
  refine ws_keep hs hw (fun j hj => by rw [up_n (by omega)]; exact h.1 j hj) (fun c hc => by rw [up_n (by omega)]; exact h.2 c (by omega)) ?_
  rw [show 9 * cN u + 8 = cN i by omega, pk_us, ev]
theorem tb_st {f0 f g : Nat → Int32} {u i v b : Int32} (h : (∀ j, (j < 10 ∨ 18 ≤ j) → f j = f0 j) ∧ ∀ c, c < cN b → f (10 + c) = g (9 * cN u + c)) (hb : cN b < 8) (ei : cN i = 10 + cN b) (ev : v = g (9 * cN u + cN b)) : (∀ j, (j < 10 ∨ 18 ≤ j) → upd f (cN i) v j = f0 j) ∧ ∀ c, c < cN b + 1 → upd f (cN i) v (10 + c) = g (9 * cN u + c) := by
  refine ⟨fun j hj => by rw [up_n (by omega)]; exact h.1 j hj, fun c hc => ?_⟩
  by_cases q : c = cN b
  · rw [q, ei, pk_us, ev]
  · rw [up_n (by omega)]; exact h.2 c (by omega)
theorem tb_end {f0 f g : Nat → Int32} {u v b : Int32} (hs : SI f0) (hw : WS1 f0 g (cN u)) (h : (∀ j, (j < 10 ∨ 18 ≤ j) → f j = f0 j) ∧ ∀ c, c < cN b → f (10 + c) = g (9 * cN u + c)) (hb : 8 ≤ cN b) (ev : v = g (9 * cN u + 8)) : SI (upd f (cN 3) v) ∧ upd f (cN 3) v 0 = f0 0 := by
  have e3 : cN 3 = 3 := rfl
  refine ⟨si_back hs hw (fun i _ h3 hi => by rw [up_n (by omega)]; exact h.1 i hi) (fun c hc => by rw [up_n (by omega)]; exact h.2 c (by omega)) (by rw [e3, pk_us, ev]), ?_⟩
  rw [up_n (by omega)]; exact h.1 0 (by omega)
theorem ws_lt {f g : Nat → Int32} {s u : Int32} {lo hi : Int} (h : WSI f g (cN s)) (e : u = s - 1) (rs : Rg lo hi s) (hh : 1 ≤ lo ∧ hi ≤ 20) : WS1 f g (cN u) ∧ WSI f g (cN u) := by
  have es := cN_nI rs (by omega)
  have h1 := cN_i rs (by omega)
  have := rs.1
  have e2 : u = nI (cN s - 1) := by rw [e, es, show (1 : Int32) = nI 1 from rfl, pk_sub (by omega), ← es]
  have e3 : cN u = cN s - 1 := cN_of e2 (by have := rs.2; omega)
  exact ⟨h _ (by omega), fun j hj => h j (by omega)⟩
