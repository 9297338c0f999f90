/-! ===== the words, the nest words, one start and one room for all contracts ===== -/
def TB : List Cond := lw_tbl.filter goodWord
theorem mk_tb {w : Cond} (h : w ∈ lw_tbl) (g : goodWord w = true) : w ∈ TB := List.mem_filter.mpr ⟨h, g⟩
theorem tb_in {w : Cond} (h : w ∈ TB) : w ∈ lw_tbl := (List.mem_filter.mp h).1
theorem tb_good {w : Cond} (h : w ∈ TB) : goodWord w = true := (List.mem_filter.mp h).2
theorem ti_1 {w : Cond} (h : w ∈ tables_1_1) : w ∈ lw_tbl := List.mem_append_right _ (List.mem_append_left _ h)
theorem ti_2 {w : Cond} (h : w ∈ tables_1_2) : w ∈ lw_tbl := List.mem_append_right _ (List.mem_append_right _ (List.mem_append_left _ h))
theorem ti_3 {w : Cond} (h : w ∈ tables_1_3) : w ∈ lw_tbl := List.mem_append_right _ (List.mem_append_right _ (List.mem_append_right _ (List.mem_append_left _ h)))
theorem ti_4 {w : Cond} (h : w ∈ tables_1_4) : w ∈ lw_tbl := List.mem_append_right _ (List.mem_append_right _ (List.mem_append_right _ (List.mem_append_right _ (List.mem_append_left _ h))))
theorem ti_5 {w : Cond} (h : w ∈ tables_1_5) : w ∈ lw_tbl := List.mem_append_right _ (List.mem_append_right _ (List.mem_append_right _ (List.mem_append_right _ (List.mem_append_right _ (List.mem_append_left _ h)))))
theorem ti_6 {w : Cond} (h : w ∈ tables_1_6) : w ∈ lw_tbl := List.mem_append_right _ (List.mem_append_right _ (List.mem_append_right _ (List.mem_append_right _ (List.mem_append_right _ (List.mem_append_right _ (List.mem_append_left _ h))))))
theorem ti_7 {w : Cond} (h : w ∈ tables_1_7) : w ∈ lw_tbl := List.mem_append_right _ (List.mem_append_right _ (List.mem_append_right _ (List.mem_append_right _ (List.mem_append_right _ (List.mem_append_right _ (List.mem_append_right _ (List.mem_append_left _ h)))))))
theorem ti_8 {w : Cond} (h : w ∈ tables_1_8) : w ∈ lw_tbl := List.mem_append_right _ (List.mem_append_right _ (List.mem_append_right _ (List.mem_append_right _ (List.mem_append_right _ (List.mem_append_right _ (List.mem_append_right _ (List.mem_append_right _ h)))))))
theorem ti_s {q : MethodName × Nat} (h : q ∈ lw_privs) : Cond.selects q.1.cls q.1 q.1 ∈ lw_tbl := List.mem_append_left _ (List.mem_map.mpr ⟨q, h, rfl⟩)
theorem gd_T (cal : Cond) : GoodIn (cal :: TB) TB := fun w h => ⟨List.mem_cons_of_mem _ h, good_of_word (tb_good h)⟩
theorem gd_C {cal cd : Cond} (h : cd ∈ TB) : GoodIn (cal :: TB) (cd :: TB) := fun w hw => by
  rcases List.mem_cons.mp hw with h2 | h2
  · rw [h2]; exact gd_T cal _ h
  · exact gd_T cal _ h2
theorem gd_L {cd : Cond} (h : cd ∈ TB) : GoodIn lw_tbl (cd :: TB) := fun w hw => by
  rcases List.mem_cons.mp hw with h2 | h2
  · rw [h2]; exact ⟨tb_in h, good_of_word (tb_good h)⟩
  · exact ⟨tb_in h2, good_of_word (tb_good h2)⟩
def nestWord : Cond → Bool
  | .fieldLinkNest _ _ _ _ _ _ => true
  | .methodLinkNest _ _ _ _ => true
  | _ => false
def NW : List Cond := lw_tbl.filter nestWord
theorem mk_nw {w : Cond} (h : w ∈ lw_tbl) (g : nestWord w = true) : w ∈ NW := List.mem_filter.mpr ⟨h, g⟩
def NN (ad : Nat → Nat) (U : State) : Prop := (∀ w ∈ NW, va_Nw w U) ∧ vk_R "WrongHole$LiftReader" 23 "row gone sewn sort takes in undo do tie beside never worth eye" (ad 0) U ∧ vk_R "WrongHole$RuleReader" 34 "act" (ad 1) U ∧ va_AO "WrongHole$Rule" U ∧ va_AO "WrongHole$Worn" U
theorem nw_warm {w : Cond} {s U : State} (hg : nestWord w = true) (hW : s.WarmedH U.vm) (h : va_Nw w s) : va_Nw w U := by
  cases w <;> first | exact va_Nw.warmF hW h | exact va_Nw.warmM hW h | exact absurd hg (by simp [nestWord])
theorem NN.warm {ad : Nat → Nat} {s U : State} (hW : s.WarmedH U.vm) (h : NN ad s) : NN ad U :=
  ⟨fun w hw => nw_warm (List.mem_filter.mp hw).2 hW (h.1 w hw), h.2.1.warm hW, h.2.2.1.warm hW, h.2.2.2.1.moved hW.alike, h.2.2.2.2.moved hW.alike⟩
theorem nw_same {w : Cond} {u U : State} (hg : nestWord w = true) (hv : u.vm = U.vm) (h : va_Nw w u) : va_Nw w U := by
  cases w <;> first | exact va_Nw.same rfl hv h | exact absurd hg (by simp [nestWord])
theorem NN.same {ad : Nat → Nat} {u U : State} (hv : u.vm = U.vm) (h : NN ad u) : NN ad U :=
  ⟨fun w hw => nw_same (List.mem_filter.mp hw).2 hv (h.1 w hw), h.2.1.same hv.symm, h.2.2.1.same hv.symm, h.2.2.2.1.moved (hv ▸ Vm.Alike.refl u.vm), h.2.2.2.2.moved (hv ▸ Vm.Alike.refl u.vm)⟩
theorem nw_use {w : Cond} {A : Array Value} {U : State} (hg : nestWord w = true) (h : va_Nw w U) : w.before A U = true := by
  cases w <;> first | exact va_Nw.use rfl h | exact absurd hg (by simp [nestWord])
theorem NN.f {ad : Nat → Nat} {A : Array Value} {U : State} {w : Cond} (h : NN ad U) (hw : w ∈ NW) : w.before A U = true := nw_use (List.mem_filter.mp hw).2 (h.1 w hw)
/-- the start of a contract: the cells, their kinds, the nest words -/
def PRE (D : va_G) (ad : Nat → Nat) (ws : va_W) (tys : List (ClassId × FieldType)) (sz : Nat) (U : State) : Prop :=
  U.heap.size = sz ∧ va_P D vwCl ws U.heap ∧ va_K D vwCl tys U ∧ va_D (fun _ => True) ws ∧ NN ad U
theorem PRE.blind {D : va_G} {ad : Nat → Nat} {ws : va_W} {tys : List (ClassId × FieldType)} {sz : Nat} {av : List Value} : FrameBlind (va_Pc av (PRE D ad ws tys sz)) :=
  fun a U g mk q => ⟨q.1, q.2.1, q.2.2.1, va_K.moved (u := U) (U := U.calling g mk a) (Vm.Alike.refl U.vm) q.2.2.2.1, q.2.2.2.2.1, NN.same (u := U) (U := U.calling g mk a) rfl q.2.2.2.2.2⟩
theorem PRE.at {D : va_G} {ad : Nat → Nat} {ws : va_W} {tys : List (ClassId × FieldType)} {A : Nat → Prop} {H : Heap} {s U : State} (hU : U.heap = H) (hW : s.WarmedH U.vm) (hP : va_P D vwCl ws H) (hK : va_K D vwCl tys s) (hD : va_D A ws) (hN : NN ad s) : PRE D ad ws tys H.size U :=
  ⟨by rw [hU], by rw [hU]; exact hP, va_K.moved hW.alike hK, hD.weaken (fun _ _ _ _ => trivial), hN.warm hW⟩
theorem pr_V {D : va_G} {ad : Nat → Nat} {ws : va_W} {tys : List (ClassId × FieldType)} {A : Nat → Prop} {H : Heap} {s : State} {b q0 ci : Nat} {r : vw_C} {fs : List Value} {As : List Value} (hP : va_P D vwCl ws H) (hK : va_K D vwCl tys s) (hD : va_D A ws) (hN : NN ad s) (hc : vwCl[ci]? = some r) (he : ws[q0]? = some (b, .inr (ci, fs))) : PreV s H r.1 b (va_Pc (.ref b :: As) (PRE D ad ws tys H.size)) As :=
  ⟨PRE.blind, va_recv hK hP hc he, fun U hU hW => ⟨rfl, PRE.at hU hW hP hK hD hN⟩⟩
theorem pr_S {D : va_G} {ad : Nat → Nat} {ws : va_W} {tys : List (ClassId × FieldType)} {A : Nat → Prop} {H : Heap} {s : State} {As : List Value} (hP : va_P D vwCl ws H) (hK : va_K D vwCl tys s) (hD : va_D A ws) (hN : NN ad s) : PreS s H (va_Pc As (PRE D ad ws tys H.size)) As :=
  ⟨PRE.blind, fun U hU hW => ⟨rfl, PRE.at hU hW hP hK hD hN⟩⟩
/-- a room by the depth of calls below -/
def RM (d mc ms : Nat) : Room := { frames := d, cells := mc, slots := ms, locals := 64 * d }
theorem rm_R {d d2 mc ms mc2 ms2 maxL : Nat} (h : Nat.ble (d + 1) d2 = true) (hm : Nat.ble maxL 45 = true) : (RM d mc ms).frames + 1 ≤ (RM d2 mc2 ms2).frames ∧ 8 + (maxL + 11) + (RM d mc ms).locals ≤ (RM d2 mc2 ms2).locals := by
  have h1 := Nat.le_of_ble_eq_true h
  have h2 := Nat.le_of_ble_eq_true hm
  simp only [RM]
  omega
/-- a contract out of the walk of the body -/
theorem MET {l : Launch} {y : MethodName} {cc : ByteArray} {maxL d mc ms : Nat} {ret : Option FieldType} {D : va_G} {ad : Nat → Nat} {ws : va_W} {tys : List (ClassId × FieldType)} {sz : Nat} {av : List Value} {Qc : (Nat → Prop) → Array Value → State → Outcome → State → Prop} {fr : (Nat → Prop) → Nat → Prop}
    (hy : plainName y.cls = true) (hlen : (lg_sl av).length ≤ maxL)
    (body : ∀ (p : Program) (e : Env) (s : State) (m : MethodId) (below : List Frame) (meth : Method) (c : Code) (ls : Array Slot) (A : Nat → Prop) (H : Heap), H = s.heap → p.tables.exec = Jvm.exec → c.code = cc → meth.sig.returnType = ret → c.maxLocals = maxL → s.vm.findClass y.cls = some m.cls →
      (∀ w ∈ Cond.code y cc maxL ret :: TB, w.before av.toArray s = true) → meth.locks = false → meth.name = y.name → va_P D vwCl ws H → va_K D vwCl tys s → va_D A ws → (∀ q : Nat, s.heap.size ≤ q → A q) → va_S A s.heap H [] → NN ad s → lv_has ls maxL (lv_args 0 av) →
      W p l e (RM d mc ms) s m av.toArray below meth c H [] 0 0 (MQ below (Qc A) av.toArray s mc ms (fr A)) (F0 m 0 ls [])) :
    Met l y (Cond.code y cc maxL ret :: TB) (RM d mc ms) (va_Pc av (PRE D ad ws tys sz)) (Qc (va_A ws sz)) mc ms (fr (va_A ws sz)) := by
  refine Met.ofW (cc := cc) (maxL := maxL) (ret := ret) hy rfl ?_
  intro p e s m args below meth c s₁ B hml hv
  obtain ⟨rfl, hsz, hP, hK, hD0, hN⟩ := hv
  have hts := atoms_spec (ws := Cond.code y cc maxL ret :: TB) B.pre
  have hown : s.vm.findClass y.cls = some m.cls := findClass_of_methodNamed B.named
  have hin : meth.name = y.name := (name_of_methodNamed B.named B.method).1
  have hl := lv_entry av (n := maxL) hlen
  rw [lg_entry_eq]
  subst hsz
  exact body p e s m below meth c _ _ s.heap rfl B.exec B.bytes B.returns hml hown hts B.notSynchronized hin hP hK (hD0.self (sz := s.heap.size)) (fun q h => Or.inr h) va_S.rf hN hl
section TC
variable {p : Program} {l : Launch} {e : Env} {R : Room} {s : State} {m : MethodId} {args : Array Value} {below : List Frame} {meth : Method} {c : Code} {H : Heap} {locs : List Loc} {cells slots : Nat} {Q : State → Prop} {pc : Nat} {ls : Array Slot} {rest : List Value}
theorem tc_i {x : Int32} (y : Int32) (h : x = y) (k : W p l e R s m args below meth c H locs cells slots Q (F0 m pc ls (.int y :: rest))) : W p l e R s m args below meth c H locs cells slots Q (F0 m pc ls (.int x :: rest)) := by rw [h]; exact k
theorem tc_l {x : Int64} (y : Int64) (h : x = y) (k : W p l e R s m args below meth c H locs cells slots Q (F0 m pc ls (.long y :: rest))) : W p l e R s m args below meth c H locs cells slots Q (F0 m pc ls (.long x :: rest)) := by rw [h]; exact k
theorem tc_v {x : Value} (y : Value) (h : x = y) (k : W p l e R s m args below meth c H locs cells slots Q (F0 m pc ls (y :: rest))) : W p l e R s m args below meth c H locs cells slots Q (F0 m pc ls (x :: rest)) := by rw [h]; exact k
theorem cl_V {r : Value} {st0 : List Value} {a : Array Value} (hr : CallRun p l e R s m args below meth c H locs cells slots 0 0 (F0 m pc ls st0) rest (k2_QcV r a) (fun _ => False)) (kk : W p l e R s m args below meth c H locs cells slots Q (F0 m (pc + 3) ls (r :: rest))) : W p l e R s m args below meth c H locs cells slots Q (F0 m pc ls st0) := W.callV hr kk
/-- a loop that counts to N: the head at pc, what holds there by the count -/
theorem w_loop (I : Nat → Heap → List Loc → Array Slot → Prop) (pc0 N : Nat) (hx : ∀ H locs ls, I N H locs ls → W p l e R s m args below meth c H locs cells slots Q (F0 m pc0 ls []))
    (hs : ∀ i H locs ls, i < N → I i H locs ls → (∀ H locs ls, I (i + 1) H locs ls → W p l e R s m args below meth c H locs cells slots Q (F0 m pc0 ls [])) → W p l e R s m args below meth c H locs cells slots Q (F0 m pc0 ls [])) :
    ∀ H locs ls, I 0 H locs ls → W p l e R s m args below meth c H locs cells slots Q (F0 m pc0 ls []) := by
  have key : ∀ n i : Nat, i + n = N → ∀ H locs ls, I i H locs ls → W p l e R s m args below meth c H locs cells slots Q (F0 m pc0 ls []) := by
    intro n
    induction n with
    | zero => intro i hi H locs ls hI; cases hi; exact hx H locs ls hI
    | succ n ih => intro i hi H locs ls hI; exact hs i H locs ls (by omega) hI (fun H2 l2 s2 h2 => ih (i + 1) (by omega) H2 l2 s2 h2)
  exact key N 0 (Nat.zero_add N)
end TC
/-- what a store of known contents may be called -/
theorem ar_P {D : va_G} {ws : va_W} {H : Heap} {a n : Nat} {cA : ClassId} {f g : Nat → Int32} (h : va_P D vwCl ws H) (k : Nat) (hk : ws[k]? = some (a, .inl (cA, n, .inl f))) (hfg : ∀ j, j < n → f j = g j) : va_P D vwCl (ws.set k (a, .inl (cA, n, .inl g))) H := by
  intro i q hq
  by_cases hik : k = i
  · subst hik
    have hlt : k < ws.length := (List.getElem?_eq_some_iff.mp hk).1
    rw [List.getElem?_set_self hlt] at hq
    cases hq
    have h1 := h k _ hk
    show H[a]? = some (vp_cell cA (n, .inl g))
    have h2 : H[a]? = some (vp_cell cA (n, .inl f)) := h1
    rw [h2]
    simp only [vp_cell, arrV]
    congr 3
    funext j
    rw [hfg j.val j.isLt]
  · rw [List.getElem?_set_ne hik] at hq
    exact h i q hq
theorem up_k (v : Int32) (k : Nat) : upd (fun _ => v) k v = fun _ => v := by funext j; simp [upd]
theorem vi_c {i : Int32} {n : Nat} (h : (decide (i < 0) || Nat.ble n i.toNatClampNeg) = false) : vp_in i n := by
  intro q
  rw [Bool.or_eq_false_iff] at h
  rcases q with q | q
  · exact absurd q (of_decide_eq_false h.1)
  · have h2 := Nat.ble_eq_true_of_le q
    rw [h.2] at h2
    cases h2
