/-! ===== the law: a world with an open end ===== -/
theorem vPm {D : va_G} {cl : List vw_C} {ws : va_W} {H : Heap} (h : va_P D cl ws H) {q : Nat × va_E} (hq : q ∈ ws) : va_at D cl q H := by
  obtain ⟨k, hk⟩ := List.getElem?_of_mem hq
  exact h k q hk
theorem vPn {D : va_G} {cl : List vw_C} {H : Heap} : va_P D cl [] H := fun k q h => by simp at h
theorem vPc {D : va_G} {cl : List vw_C} {ws : va_W} {q : Nat × va_E} {H : Heap} (h : va_at D cl q H) (t : va_P D cl ws H) : va_P D cl (q :: ws) H := by
  intro k p hk
  rcases List.mem_cons.mp (List.mem_of_getElem? hk) with e | e
  · rw [e]; exact h
  · exact vPm t e
theorem vPp {D : va_G} {cl : List vw_C} {ws ws' : va_W} {H : Heap} (hp : ws.Perm ws') (h : va_P D cl ws H) : va_P D cl ws' H := fun _ _ hk => vPm h (hp.mem_iff.mpr (List.mem_of_getElem? hk))
theorem vD_nd {A : Nat → Prop} {ws : va_W} : va_D A ws ↔ (ws.map Prod.fst).Nodup ∧ ∀ q ∈ ws, A q.1 := by
  constructor
  · intro h
    refine ⟨?_, fun q hq => ?_⟩
    · rw [List.Nodup, List.pairwise_iff_getElem]
      intro i j hi hj hij e
      have hi' : i < ws.length := by rw [List.length_map] at hi; exact hi
      have hj' : j < ws.length := by rw [List.length_map] at hj; exact hj
      have q := h.1 i j ws[i] ws[j] (List.getElem?_eq_getElem hi') (List.getElem?_eq_getElem hj') (by rw [List.getElem_map, List.getElem_map] at e; exact e)
      omega
    · obtain ⟨k, hk⟩ := List.getElem?_of_mem hq
      exact h.2 k q hk
  · intro h
    refine ⟨fun i j p q hp hq e => ?_, fun k q hk => h.2 q (List.mem_of_getElem? hk)⟩
    have n := h.1
    rw [List.Nodup, List.pairwise_iff_getElem] at n
    obtain ⟨hi, ei⟩ := List.getElem?_eq_some_iff.mp hp
    obtain ⟨hj, ej⟩ := List.getElem?_eq_some_iff.mp hq
    rcases Nat.lt_trichotomy i j with o | o | o
    · exact absurd (by rw [List.getElem_map, List.getElem_map, ei, ej]; exact e) (n i j (by rw [List.length_map]; exact hi) (by rw [List.length_map]; exact hj) o)
    · exact o
    · exact absurd (by rw [List.getElem_map, List.getElem_map, ei, ej]; exact e.symm) (n j i (by rw [List.length_map]; exact hj) (by rw [List.length_map]; exact hi) o)
theorem vDp {A : Nat → Prop} {ws ws' : va_W} (hp : ws.Perm ws') (h : va_D A ws) : va_D A ws' := by
  rw [vD_nd] at h ⊢
  exact ⟨(hp.map Prod.fst).nodup_iff.mp h.1, fun q hq => h.2 q (hp.mem_iff.mpr hq)⟩
/-- a cell of the world by its address alone -/
theorem vDe {A : Nat → Prop} {ws : va_W} (h : va_D A ws) {a : Nat} {e1 e2 : va_E} (h1 : (a, e1) ∈ ws) (h2 : (a, e2) ∈ ws) : e1 = e2 := by
  obtain ⟨i, hi⟩ := List.getElem?_of_mem h1
  obtain ⟨j, hj⟩ := List.getElem?_of_mem h2
  have e := h.1 i j _ _ hi hj rfl
  subst e
  rw [hi] at hj
  exact congrArg Prod.snd (Option.some.inj hj)
theorem vAt {X wc : va_W} {is : List Nat} (hs : is.map (fun i => X[i]?) = wc.map some) {k : Nat} {q : Nat × va_E} (hk : wc[k]? = some q) : ∃ i, is[k]? = some i ∧ X[i]? = some q := by
  have h1 : (is.map (fun i => X[i]?))[k]? = some (some q) := by rw [hs, List.getElem?_map, hk]; rfl
  rw [List.getElem?_map] at h1
  cases hi : is[k]? with
  | none => rw [hi] at h1; cases h1
  | some i => rw [hi] at h1; exact ⟨i, rfl, Option.some.inj h1⟩
theorem vT {X T : va_W} {i : Nat} {q : Nat × va_E} (h : X[i]? = some q) : (X ++ T)[i]? = some q := by
  have hl := (List.getElem?_eq_some_iff.mp h).1
  rw [List.getElem?_append_left hl]; exact h
theorem vPs {D : va_G} {cl : List vw_C} {X X' T : va_W} {H : Heap} (h : va_P D cl (X ++ T) H) (is : List Nat) (hs : is.map (fun i => X[i]?) = X'.map some) : va_P D cl (X' ++ T) H := by
  intro k q hk
  rcases List.mem_append.mp (List.mem_of_getElem? hk) with m | m
  · obtain ⟨j, hj⟩ := List.getElem?_of_mem m
    obtain ⟨i, _, hi⟩ := vAt hs hj
    exact h i q (vT hi)
  · exact vPm h (List.mem_append_right _ m)
theorem vDs {A : Nat → Prop} {X X' T : va_W} (h : va_D A (X ++ T)) (is : List Nat) (hn : va_nd is = true) (hs : is.map (fun i => X[i]?) = X'.map some) : va_D A (X' ++ T) := by
  have key : ∀ {i : Nat} {q : Nat × va_E}, X[i]? = some q → i < X.length := fun h => (List.getElem?_eq_some_iff.mp h).1
  refine va_D.app ?_ ?_ ?_
  · refine ⟨fun i j p q hp hq e => ?_, fun k q hk => ?_⟩
    · obtain ⟨a, ha, ha2⟩ := vAt hs hp
      obtain ⟨b, hb, hb2⟩ := vAt hs hq
      have := h.1 a b p q (vT ha2) (vT hb2) e
      subst this
      exact va_nd_inj is hn i j a ha hb
    · obtain ⟨a, _, ha2⟩ := vAt hs hk
      exact h.2 a q (vT ha2)
  · refine ⟨fun i j p q hp hq e => ?_, fun k q hk => ?_⟩
    · have := h.1 (X.length + i) (X.length + j) p q (by rw [List.getElem?_append_right (by omega), Nat.add_sub_cancel_left]; exact hp) (by rw [List.getElem?_append_right (by omega), Nat.add_sub_cancel_left]; exact hq) e
      omega
    · exact h.2 (X.length + k) q (by rw [List.getElem?_append_right (by omega), Nat.add_sub_cancel_left]; exact hk)
  · intro i j p q hp hq e
    obtain ⟨a, _, ha2⟩ := vAt hs hp
    have := h.1 a (X.length + j) p q (vT ha2) (by rw [List.getElem?_append_right (by omega), Nat.add_sub_cancel_left]; exact hq) e
    have := key ha2
    omega
/-- what isn't asked for isn't changed -/
theorem vNo {D : va_G} {cl : List vw_C} {A : Nat → Prop} {ws wc : va_W} {H : Heap} (hP : va_P D cl ws H) (hD : va_D A ws) (isC : List Nat) (hC : isC.map (fun i => ws[i]?) = wc.map some) {j : Nat} {q : Nat × va_E} (hj : ws[j]? = some q) (hn : j ∉ isC) : ¬ va_A wc H.size q.1 := by
  intro h
  rcases h with ⟨k, e, h⟩ | h
  · obtain ⟨i, h1, h2⟩ := vAt hC h
    have := hD.1 i j _ _ h2 hj rfl
    subst this
    exact hn (List.mem_of_getElem? h1)
  · have := (hP j q hj).lt
    omega
theorem vNoT {D : va_G} {cl : List vw_C} {A : Nat → Prop} {X T wc : va_W} {H : Heap} (hP : va_P D cl (X ++ T) H) (hD : va_D A (X ++ T)) (isC : List Nat) (hC : isC.map (fun i => X[i]?) = wc.map some) {q : Nat × va_E} (hq : q ∈ T) : ¬ va_A wc H.size q.1 := by
  obtain ⟨j, hj⟩ := List.getElem?_of_mem hq
  have hj2 : (X ++ T)[X.length + j]? = some q := by rw [List.getElem?_append_right (by omega), Nat.add_sub_cancel_left]; exact hj
  intro h
  rcases h with ⟨k, e, h⟩ | h
  · obtain ⟨i, h1, h2⟩ := vAt hC h
    have := hD.1 i (X.length + j) _ _ (vT h2) hj2 rfl
    have := (List.getElem?_eq_some_iff.mp h2).1
    omega
  · have := (hP _ q hj2).lt
    omega
theorem vJ {A : Nat → Prop} {D : va_G} {cl : List vw_C} {X T wc wr w1 : va_W} {H H1 : Heap} (hP : va_P D cl (X ++ T) H) (hD : va_D A (X ++ T)) (isC isR : List Nat) (hC : isC.map (fun i => X[i]?) = wc.map some) (hR : isR.map (fun i => X[i]?) = wr.map some) (hn : va_nd isR = true) (hdis : ∀ i ∈ isR, i ∉ isC)
    (hk : ∀ q : Nat, q < H.size → ¬ va_A wc H.size q → H1[q]? = H[q]?) (hF : ∀ q, va_A wc H.size q → A q) (hP1 : va_P D cl w1 H1) (hD1 : va_D (va_A wc H.size) w1) : va_P D cl ((wr ++ w1) ++ T) H1 ∧ va_D A ((wr ++ w1) ++ T) := by
  have hPX : va_P D cl X H := fun k q h => hP k q (vT h)
  have hDX : va_D A X := ⟨fun i j p q hp hq e => hD.1 i j p q (vT hp) (vT hq) e, fun k q hk => hD.2 k q (vT hk)⟩
  obtain ⟨j1, j2⟩ := va_join hPX hDX isC isR hC hR hn hdis hk hF hP1 hD1
  have hPT : va_P D cl T H := fun k q h => vPm hP (List.mem_append_right _ (List.mem_of_getElem? h))
  have no : ∀ (k : Nat) (q : Nat × va_E), T[k]? = some q → ¬ va_A wc H.size q.1 := fun k q h => vNoT hP hD isC hC (List.mem_of_getElem? h)
  have hDT : va_D A T := (vDs (X' := []) hD [] rfl rfl)
  refine ⟨j1.app (hPT.kept (fun k q h => hk q.1 (hPT k q h).lt (no k q h))), va_D.app j2 hDT ?_⟩
  intro i j p q hp hq e
  rcases List.mem_append.mp (List.mem_of_getElem? hp) with m | m
  · obtain ⟨k, hk2⟩ := List.getElem?_of_mem m
    obtain ⟨a, _, ha⟩ := vAt hR hk2
    have := hD.1 a (X.length + j) p q (vT ha) (by rw [List.getElem?_append_right (by omega), Nat.add_sub_cancel_left]; exact hq) e
    have := (List.getElem?_eq_some_iff.mp ha).1
    omega
  · obtain ⟨k, hk2⟩ := List.getElem?_of_mem m
    have := hD1.2 k p hk2
    rw [e] at this
    exact no j q hq this
/-- the start of a contract that the law calls -/
theorem PRE.atL {D : va_G} {cs : Nat → ClassId} {X : XX} {ws wo : va_W} {A : Nat → Prop} {H : Heap} {locs : List Loc} {s U : State} (hU : U.heap = H) (hW : s.WarmedH U.vm) (hP : va_P D vwCl ws H) (hK : va_K D vwCl (TY cs) s) (hD : va_D A ws) (hN : NN s) (hPo : va_P D vwCl wo H) (hno : ∀ q ∈ wo, ¬ va_A ws H.size q.1) (hS : va_S A s.heap H locs) (hF : ∀ q, va_A ws H.size q → A q) (hX : XOK X) (hXs : X A s s.heap) : PRE D cs X ws wo H.size U := by
  subst hU
  exact ⟨rfl, hP, va_K.moved hW.alike hK, hD.weaken (fun _ _ _ _ => trivial), hN.warm hW, hPo, hno, hX, hX.2.1 _ s U _ hW (hX.1 _ _ _ _ (hX.2.2.2 _ _ _ _ hXs hS.2.1) hF)⟩
theorem pr_L {D : va_G} {cs : Nat → ClassId} {X : XX} {ws wo : va_W} {A : Nat → Prop} {H : Heap} {locs : List Loc} {s : State} {b q0 ci : Nat} {r : vw_C} {fs : List Value} {As : List Value} (hP : va_P D vwCl ws H) (hK : va_K D vwCl (TY cs) s) (hD : va_D A ws) (hN : NN s) (hPo : va_P D vwCl wo H) (hno : ∀ q ∈ wo, ¬ va_A ws H.size q.1) (hS : va_S A s.heap H locs) (hF : ∀ q, va_A ws H.size q → A q) (hX : XOK X) (hXs : X A s s.heap) (hc : vwCl[ci]? = some r) (he : ws[q0]? = some (b, .inr (ci, fs))) : PreV s H r.1 b (va_Pc (.ref b :: As) (PRE D cs X ws wo H.size)) As :=
  ⟨PRE.blind, va_recv hK hP hc he, fun U hU hW => ⟨rfl, PRE.atL hU hW hP hK hD hN hPo hno hS hF hX hXs⟩⟩
theorem pr_LS {D : va_G} {cs : Nat → ClassId} {X : XX} {ws wo : va_W} {A : Nat → Prop} {H : Heap} {locs : List Loc} {s : State} {As : List Value} (hP : va_P D vwCl ws H) (hK : va_K D vwCl (TY cs) s) (hD : va_D A ws) (hN : NN s) (hPo : va_P D vwCl wo H) (hno : ∀ q ∈ wo, ¬ va_A ws H.size q.1) (hS : va_S A s.heap H locs) (hF : ∀ q, va_A ws H.size q → A q) (hX : XOK X) (hXs : X A s s.heap) : PreS s H (va_Pc As (PRE D cs X ws wo H.size)) As :=
  ⟨PRE.blind, fun U hU hW => ⟨rfl, PRE.atL hU hW hP hK hD hN hPo hno hS hF hX hXs⟩⟩
/-- of four images one to the front -/
def imx (im : Nat → va_W) (k : Nat) : va_W := if k = 0 then im 1 ++ (im 2 ++ im 3) else if k = 1 then im 0 ++ (im 2 ++ im 3) else if k = 2 then im 0 ++ (im 1 ++ im 3) else im 0 ++ (im 1 ++ im 2)
def TL (F r3 : va_W) (im : Nat → va_W) (ph po v : va_W) : va_W := F ++ (r3 ++ (im 0 ++ (im 1 ++ (im 2 ++ (im 3 ++ (ph ++ (po ++ v)))))))
theorem pm_f (a g b : va_W) : (a ++ (g ++ b)).Perm (g ++ (a ++ b)) := List.perm_append_comm_assoc a g b
theorem im_front (im : Nat → va_W) (R : va_W) (k : Nat) (hk : k < 4) : (im 0 ++ (im 1 ++ (im 2 ++ (im 3 ++ R)))).Perm (im k ++ (imx im k ++ R)) := by
  have h : k = 0 ∨ k = 1 ∨ k = 2 ∨ k = 3 := by omega
  rcases h with rfl | rfl | rfl | rfl
  · show (im 0 ++ (im 1 ++ (im 2 ++ (im 3 ++ R)))).Perm (im 0 ++ ((im 1 ++ (im 2 ++ im 3)) ++ R))
    rw [List.append_assoc, List.append_assoc]
  · show (im 0 ++ (im 1 ++ (im 2 ++ (im 3 ++ R)))).Perm (im 1 ++ ((im 0 ++ (im 2 ++ im 3)) ++ R))
    rw [List.append_assoc, List.append_assoc]
    exact pm_f _ _ _
  · show (im 0 ++ (im 1 ++ (im 2 ++ (im 3 ++ R)))).Perm (im 2 ++ ((im 0 ++ (im 1 ++ im 3)) ++ R))
    rw [List.append_assoc, List.append_assoc]
    exact (List.Perm.append_left _ (pm_f _ _ _)).trans (pm_f _ _ _)
  · show (im 0 ++ (im 1 ++ (im 2 ++ (im 3 ++ R)))).Perm (im 3 ++ ((im 0 ++ (im 1 ++ im 2)) ++ R))
    rw [List.append_assoc, List.append_assoc]
    exact (List.Perm.append_left _ ((List.Perm.append_left _ (pm_f _ _ _)).trans (pm_f _ _ _))).trans (pm_f _ _ _)
def up4 (im : Nat → va_W) (k : Nat) (g : va_W) : Nat → va_W := fun j => if j = k then g else im j
theorem imx_up (im : Nat → va_W) (k : Nat) (hk : k < 4) (g : va_W) : imx (up4 im k g) k = imx im k := by
  have h : k = 0 ∨ k = 1 ∨ k = 2 ∨ k = 3 := by omega
  rcases h with rfl | rfl | rfl | rfl <;> rfl
theorem up4_s (im : Nat → va_W) (k : Nat) (g : va_W) : up4 im k g k = g := if_pos rfl
theorem up4_n (im : Nat → va_W) {k j : Nat} (g : va_W) (h : j ≠ k) : up4 im k g j = im j := if_neg h
/-- image k to the front of the open end -/
theorem tl_im (F r3 : va_W) (im : Nat → va_W) (ph po v : va_W) (k : Nat) (hk : k < 4) : (TL F r3 im ph po v).Perm (im k ++ (F ++ (r3 ++ (imx im k ++ (ph ++ (po ++ v)))))) :=
  ((List.Perm.append_left F ((List.Perm.append_left r3 (im_front im _ k hk)).trans (pm_f _ _ _))).trans (pm_f _ _ _))
theorem tl_ph (F r3 : va_W) (im : Nat → va_W) (ph po v : va_W) : (TL F r3 im ph po v).Perm (ph ++ TL F r3 im [] po v) := by
  unfold TL
  exact (List.Perm.append_left F ((List.Perm.append_left r3 ((List.Perm.append_left _ ((List.Perm.append_left _ ((List.Perm.append_left _ (pm_f _ _ _)).trans (pm_f _ _ _))).trans (pm_f _ _ _))).trans (pm_f _ _ _))).trans (pm_f _ _ _))).trans (pm_f _ _ _)
theorem tl_po (F r3 : va_W) (im : Nat → va_W) (ph po v : va_W) : (TL F r3 im ph po v).Perm (po ++ TL F r3 im ph [] v) := by
  unfold TL
  exact (List.Perm.append_left F ((List.Perm.append_left r3 ((List.Perm.append_left _ ((List.Perm.append_left _ ((List.Perm.append_left _ ((List.Perm.append_left _ (pm_f _ _ _)).trans (pm_f _ _ _))).trans (pm_f _ _ _))).trans (pm_f _ _ _))).trans (pm_f _ _ _))).trans (pm_f _ _ _))).trans (pm_f _ _ _)
theorem tl_r3 (F : va_W) (s t : va_W) (q : Nat × va_E) (im : Nat → va_W) (ph po v : va_W) : (TL F (s ++ q :: t) im ph po v).Perm (q :: TL F (s ++ t) im ph po v) := by
  unfold TL
  have e : (s ++ q :: t) ++ (im 0 ++ (im 1 ++ (im 2 ++ (im 3 ++ (ph ++ (po ++ v)))))) = s ++ ([q] ++ (t ++ (im 0 ++ (im 1 ++ (im 2 ++ (im 3 ++ (ph ++ (po ++ v)))))))) := by rw [List.append_assoc]; rfl
  rw [e, List.append_assoc]
  exact (List.Perm.append_left F (pm_f _ _ _)).trans (pm_f _ _ _)
theorem tl_v (F r3 : va_W) (im : Nat → va_W) (ph po v : va_W) : TL F r3 im ph po v = TL F r3 im ph po [] ++ v := by
  unfold TL
  rw [List.append_assoc, List.append_assoc, List.append_assoc, List.append_assoc, List.append_assoc, List.append_assoc, List.append_assoc, List.append_assoc, List.nil_append]
theorem mF {F r3 : va_W} {im : Nat → va_W} {ph po v : va_W} {q : Nat × va_E} (h : q ∈ F) : q ∈ TL F r3 im ph po v := List.mem_append_left _ h
