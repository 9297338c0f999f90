/-! ===== the words, the nest words, one start and one room for all contracts ===== -/
def TB : List Cond := lw_tbl.filter goodWord
theorem mk_tb {w : Cond} (h : w ∈ lw_tbl) (g : goodWord w = true) : w ∈ TB := List.mem_filter.mpr ⟨h, g⟩
theorem tb_in {w : Cond} (h : w ∈ TB) : w ∈ lw_tbl := (List.mem_filter.mp h).1
theorem tb_good {w : Cond} (h : w ∈ TB) : goodWord w = true := (List.mem_filter.mp h).2
theorem ti_1 {w : Cond} (h : w ∈ tables_1_1) : w ∈ lw_tbl := List.mem_append_right _ (List.mem_append_left _ h)
theorem ti_2 {w : Cond} (h : w ∈ tables_1_2) : w ∈ lw_tbl := List.mem_append_right _ (List.mem_append_right _ (List.mem_append_left _ h))
theorem ti_3 {w : Cond} (h : w ∈ tables_1_3) : w ∈ lw_tbl := List.mem_append_right _ (List.mem_append_right _ (List.mem_append_right _ (List.mem_append_left _ h)))
theorem ti_4 {w : Cond} (h : w ∈ tables_1_4) : w ∈ lw_tbl := List.mem_append_right _ (List.mem_append_right _ (List.mem_append_right _ (List.mem_append_right _ (List.mem_append_left _ h))))
theorem ti_5 {w : Cond} (h : w ∈ tables_1_5) : w ∈ lw_tbl := List.mem_append_right _ (List.mem_append_right _ (List.mem_append_right _ (List.mem_append_right _ (List.mem_append_right _ (List.mem_append_left _ h)))))
theorem ti_6 {w : Cond} (h : w ∈ tables_1_6) : w ∈ lw_tbl := List.mem_append_right _ (List.mem_append_right _ (List.mem_append_right _ (List.mem_append_right _ (List.mem_append_right _ (List.mem_append_right _ (List.mem_append_left _ h))))))
theorem ti_7 {w : Cond} (h : w ∈ tables_1_7) : w ∈ lw_tbl := List.mem_append_right _ (List.mem_append_right _ (List.mem_append_right _ (List.mem_append_right _ (List.mem_append_right _ (List.mem_append_right _ (List.mem_append_right _ (List.mem_append_left _ h)))))))
theorem ti_8 {w : Cond} (h : w ∈ tables_1_8) : w ∈ lw_tbl := List.mem_append_right _ (List.mem_append_right _ (List.mem_append_right _ (List.mem_append_right _ (List.mem_append_right _ (List.mem_append_right _ (List.mem_append_right _ (List.mem_append_right _ h)))))))
theorem ti_s {q : MethodName × Nat} (h : q ∈ lw_privs) : Cond.selects q.1.cls q.1 q.1 ∈ lw_tbl := List.mem_append_left _ (List.mem_map.mpr ⟨q, h, rfl⟩)
theorem gd_T (cal : Cond) : GoodIn (cal :: TB) TB := fun w h => ⟨List.mem_cons_of_mem _ h, good_of_word (tb_good h)⟩
theorem gd_C {cal cd : Cond} (h : cd ∈ TB) : GoodIn (cal :: TB) (cd :: TB) := fun w hw => by
  rcases List.mem_cons.mp hw with h2 | h2
  · rw [h2]; exact gd_T cal _ h
  · exact gd_T cal _ h2
theorem gd_L {cd : Cond} (h : cd ∈ TB) : GoodIn lw_tbl (cd :: TB) := fun w hw => by
  rcases List.mem_cons.mp hw with h2 | h2
  · rw [h2]; exact ⟨tb_in h, good_of_word (tb_good h)⟩
  · exact ⟨tb_in h2, good_of_word (tb_good h2)⟩
def nestWord : Cond → Bool
  | .fieldLinkNest _ _ _ _ _ _ => true
  | .methodLinkNest _ _ _ _ => true
  | _ => false
def NW : List Cond := lw_tbl.filter nestWord
theorem mk_nw {w : Cond} (h : w ∈ lw_tbl) (g : nestWord w = true) : w ∈ NW := List.mem_filter.mpr ⟨h, g⟩
/-- the kinds of rows: int, char, byte, boolean, long -/
abbrev TY (cs : Nat → ClassId) : List (ClassId × FieldType) := [(cs 0, .int), (cs 1, .char), (cs 2, .byte), (cs 3, .boolean), (cs 4, .long)]
def NN (U : State) : Prop := ∀ w ∈ NW, va_Nw w U
theorem nw_warm {w : Cond} {s U : State} (hg : nestWord w = true) (hW : s.WarmedH U.vm) (h : va_Nw w s) : va_Nw w U := by
  cases w <;> first | exact va_Nw.warmF hW h | exact va_Nw.warmM hW h | exact absurd hg (by simp [nestWord])
theorem NN.warm {s U : State} (hW : s.WarmedH U.vm) (h : NN s) : NN U := fun w hw => nw_warm (List.mem_filter.mp hw).2 hW (h w hw)
theorem nw_same {w : Cond} {u U : State} (hg : nestWord w = true) (hv : u.vm = U.vm) (h : va_Nw w u) : va_Nw w U := by
  cases w <;> first | exact va_Nw.same rfl hv h | exact absurd hg (by simp [nestWord])
theorem NN.same {u U : State} (hv : u.vm = U.vm) (h : NN u) : NN U := fun w hw => nw_same (List.mem_filter.mp hw).2 hv (h w hw)
theorem nw_use {w : Cond} {A : Array Value} {U : State} (hg : nestWord w = true) (h : va_Nw w U) : w.before A U = true := by
  cases w <;> first | exact va_Nw.use rfl h | exact absurd hg (by simp [nestWord])
theorem NN.f {A : Array Value} {U : State} {w : Cond} (h : NN U) (hw : w ∈ NW) : w.before A U = true := nw_use (List.mem_filter.mp hw).2 (h w hw)
/-- what else a state may be asked for (strings, statics): kept by calls -/
abbrev XX : Type := (Nat → Prop) → State → Heap → Prop
def XOK (X : XX) : Prop := (∀ A B U H, X A U H → (∀ q, B q → A q) → X B U H) ∧ (∀ A (u U : State) H, u.WarmedH U.vm → X A u H → X A U H) ∧ (∀ A (u U : State) H, u.vm = U.vm → X A u H → X A U H) ∧ ∀ A U (H H1 : Heap), X A U H → (∀ q : Nat, q < H.size → ¬ A q → H1[q]? = H[q]?) → X A U H1
/-- the start of a contract: the cells that may change, the cells that stay, the nest words -/
def PRE (D : va_G) (cs : Nat → ClassId) (X : XX) (ws wo : va_W) (sz : Nat) (U : State) : Prop :=
  U.heap.size = sz ∧ va_P D vwCl ws U.heap ∧ va_K D vwCl (TY cs) U ∧ va_D (fun _ => True) ws ∧ NN U ∧ va_P D vwCl wo U.heap ∧ (∀ q ∈ wo, ¬ va_A ws sz q.1) ∧ XOK X ∧ X (va_A ws sz) U U.heap
theorem PRE.blind {D : va_G} {cs : Nat → ClassId} {X : XX} {ws wo : va_W} {sz : Nat} {av : List Value} : FrameBlind (va_Pc av (PRE D cs X ws wo sz)) :=
  fun a U g mk q => ⟨q.1, q.2.1, q.2.2.1, va_K.moved (u := U) (U := U.calling g mk a) (Vm.Alike.refl U.vm) q.2.2.2.1, q.2.2.2.2.1, NN.same (u := U) (U := U.calling g mk a) rfl q.2.2.2.2.2.1, q.2.2.2.2.2.2.1, q.2.2.2.2.2.2.2.1, q.2.2.2.2.2.2.2.2.1, q.2.2.2.2.2.2.2.2.1.2.2.1 _ U (U.calling g mk a) _ rfl q.2.2.2.2.2.2.2.2.2⟩
/-- what stays: at the start and ever since -/
def ROK (D : va_G) (A : Nat → Prop) (wo : va_W) (H0 : Heap) : Prop := va_P D vwCl wo H0 ∧ ∀ q ∈ wo, ¬ A q.1
theorem ROK.at {D : va_G} {A : Nat → Prop} {wo : va_W} {H0 H : Heap} {locs : List Loc} (h : ROK D A wo H0) (hS : va_S A H0 H locs) : va_P D vwCl wo H :=
  h.1.kept (fun k q hk => hS.2.1 q.1 (h.1 k q hk).lt (h.2 q (List.mem_of_getElem? hk)))
theorem ROK.sub {D : va_G} {A : Nat → Prop} {wo wo' : va_W} {H0 : Heap} (h : ROK D A wo H0) (is : List Nat) (hs : is.filterMap (fun i => wo[i]?) = wo') : ROK D A wo' H0 := by
  refine ⟨h.1.sub is hs, fun q hq => ?_⟩
  rw [← hs] at hq
  obtain ⟨i, -, hi⟩ := List.mem_filterMap.mp hq
  exact h.2 q (List.mem_of_getElem? hi)
theorem PRE.at {D : va_G} {cs : Nat → ClassId} {X : XX} {ws wo : va_W} {A : Nat → Prop} {H : Heap} {locs : List Loc} {s U : State} (hU : U.heap = H) (hW : s.WarmedH U.vm) (hP : va_P D vwCl ws H) (hK : va_K D vwCl (TY cs) s) (hD : va_D A ws) (hN : NN s) (hR : ROK D A wo s.heap) (hS : va_S A s.heap H locs) (hF : ∀ q, va_A ws H.size q → A q) (hX : XOK X) (hXs : X A s s.heap) : PRE D cs X ws wo H.size U := by
  subst hU
  exact ⟨rfl, hP, va_K.moved hW.alike hK, hD.weaken (fun _ _ _ _ => trivial), hN.warm hW, hR.at hS, fun q hq h => hR.2 q hq (hF _ h), hX, hX.2.1 _ s U _ hW (hX.1 _ _ _ _ (hX.2.2.2 _ _ _ _ hXs hS.2.1) hF)⟩
theorem pr_V {D : va_G} {cs : Nat → ClassId} {X : XX} {ws wo : va_W} {A : Nat → Prop} {H : Heap} {locs : List Loc} {s : State} {b q0 ci : Nat} {r : vw_C} {fs : List Value} {As : List Value} (hP : va_P D vwCl ws H) (hK : va_K D vwCl (TY cs) s) (hD : va_D A ws) (hN : NN s) (hR : ROK D A wo s.heap) (hS : va_S A s.heap H locs) (hF : ∀ q, va_A ws H.size q → A q) (hX : XOK X) (hXs : X A s s.heap) (hc : vwCl[ci]? = some r) (he : ws[q0]? = some (b, .inr (ci, fs))) : PreV s H r.1 b (va_Pc (.ref b :: As) (PRE D cs X ws wo H.size)) As :=
  ⟨PRE.blind, va_recv hK hP hc he, fun U hU hW => ⟨rfl, PRE.at hU hW hP hK hD hN hR hS hF hX hXs⟩⟩
theorem pr_W {D : va_G} {cs : Nat → ClassId} {X : XX} {ws wo : va_W} {A : Nat → Prop} {H : Heap} {locs : List Loc} {s : State} {b q0 ci : Nat} {r : vw_C} {fs : List Value} {As : List Value} (hP : va_P D vwCl ws H) (hK : va_K D vwCl (TY cs) s) (hD : va_D A ws) (hN : NN s) (hR : ROK D A wo s.heap) (hS : va_S A s.heap H locs) (hF : ∀ q, va_A ws H.size q → A q) (hX : XOK X) (hXs : X A s s.heap) (hc : vwCl[ci]? = some r) (he : wo[q0]? = some (b, .inr (ci, fs))) : PreV s H r.1 b (va_Pc (.ref b :: As) (PRE D cs X ws wo H.size)) As :=
  ⟨PRE.blind, va_recv hK (hR.at hS) hc he, fun U hU hW => ⟨rfl, PRE.at hU hW hP hK hD hN hR hS hF hX hXs⟩⟩
theorem pr_S {D : va_G} {cs : Nat → ClassId} {X : XX} {ws wo : va_W} {A : Nat → Prop} {H : Heap} {locs : List Loc} {s : State} {As : List Value} (hP : va_P D vwCl ws H) (hK : va_K D vwCl (TY cs) s) (hD : va_D A ws) (hN : NN s) (hR : ROK D A wo s.heap) (hS : va_S A s.heap H locs) (hF : ∀ q, va_A ws H.size q → A q) (hX : XOK X) (hXs : X A s s.heap) : PreS s H (va_Pc As (PRE D cs X ws wo H.size)) As :=
  ⟨PRE.blind, fun U hU hW => ⟨rfl, PRE.at hU hW hP hK hD hN hR hS hF hX hXs⟩⟩
/-- the start of a contract that changes nothing -/
def PRR (D : va_G) (cs : Nat → ClassId) (ws : va_W) (U : State) : Prop := va_P D vwCl ws U.heap ∧ va_K D vwCl (TY cs) U ∧ NN U
theorem PRR.blind {D : va_G} {cs : Nat → ClassId} {ws : va_W} {av : List Value} : FrameBlind (va_Pc av (PRR D cs ws)) :=
  fun a U g mk q => ⟨q.1, q.2.1, va_K.moved (u := U) (U := U.calling g mk a) (Vm.Alike.refl U.vm) q.2.2.1, NN.same (u := U) (U := U.calling g mk a) rfl q.2.2.2⟩
theorem pq_V {D : va_G} {cs : Nat → ClassId} {ws : va_W} {H : Heap} {s : State} {b q0 ci : Nat} {r : vw_C} {fs : List Value} {As : List Value} (hP : va_P D vwCl ws H) (hK : va_K D vwCl (TY cs) s) (hN : NN s) (hc : vwCl[ci]? = some r) (he : ws[q0]? = some (b, .inr (ci, fs))) : PreV s H r.1 b (va_Pc (.ref b :: As) (PRR D cs ws)) As :=
  ⟨PRR.blind, va_recv hK hP hc he, fun U hU hW => ⟨rfl, by rw [hU]; exact hP, va_K.moved hW.alike hK, hN.warm hW⟩⟩
theorem pq_S {D : va_G} {cs : Nat → ClassId} {ws : va_W} {H : Heap} {s : State} {As : List Value} (hP : va_P D vwCl ws H) (hK : va_K D vwCl (TY cs) s) (hN : NN s) : PreS s H (va_Pc As (PRR D cs ws)) As :=
  ⟨PRR.blind, fun U hU hW => ⟨rfl, by rw [hU]; exact hP, va_K.moved hW.alike hK, hN.warm hW⟩⟩
/-- a room by the depth of calls below -/
def RM (d mc ms : Nat) : Room := { frames := d, cells := mc, slots := ms, locals := 64 * d }
theorem rm_R {d d2 mc ms mc2 ms2 maxL : Nat} (h : Nat.ble (d + 1) d2 = true) (hm : Nat.ble maxL 45 = true) : (RM d mc ms).frames + 1 ≤ (RM d2 mc2 ms2).frames ∧ 8 + (maxL + 11) + (RM d mc ms).locals ≤ (RM d2 mc2 ms2).locals := by
  have h1 := Nat.le_of_ble_eq_true h
  have h2 := Nat.le_of_ble_eq_true hm
  simp only [RM]
  omega
/-- a contract out of the walk of the body -/
theorem MET {l : Launch} {y : MethodName} {cc : ByteArray} {maxL d mc ms : Nat} {ret : Option FieldType} {D : va_G} {cs : Nat → ClassId} {X : XX} {ws wo : va_W} {sz : Nat} {av : List Value} {Qc : (Nat → Prop) → Array Value → State → Outcome → State → Prop}
    (hy : plainName y.cls = true) (hlen : (lg_sl av).length ≤ maxL)
    (body : ∀ (p : Program) (e : Env) (s : State) (m : MethodId) (below : List Frame) (meth : Method) (c : Code) (ls : Array Slot) (A : Nat → Prop) (H : Heap), H = s.heap → p.tables.exec = Jvm.exec → c.code = cc → meth.sig.returnType = ret → c.maxLocals = maxL → s.vm.findClass y.cls = some m.cls →
      (∀ w ∈ Cond.code y cc maxL ret :: TB, w.before av.toArray s = true) → meth.locks = false → meth.name = y.name → va_P D vwCl ws H → va_K D vwCl (TY cs) s → va_D A ws → (∀ q : Nat, s.heap.size ≤ q → A q) → va_S A s.heap H [] → NN s → ROK D A wo s.heap → XOK X → X A s s.heap → lv_has ls maxL (lv_args 0 av) →
      W p l e (RM d mc ms) s m av.toArray below meth c H [] 0 0 (MQ below (Qc A) av.toArray s mc ms A) (F0 m 0 ls [])) :
    Met l y (Cond.code y cc maxL ret :: TB) (RM d mc ms) (va_Pc av (PRE D cs X ws wo sz)) (Qc (va_A ws sz)) mc ms (va_A ws sz) := by
  refine Met.ofW (cc := cc) (maxL := maxL) (ret := ret) hy rfl ?_
  intro p e s m args below meth c s₁ B hml hv
  obtain ⟨rfl, hsz, hP, hK, hD0, hN, hPo, hoA, hX, hXs⟩ := hv
  have hts := atoms_spec (ws := Cond.code y cc maxL ret :: TB) B.pre
  have hown : s.vm.findClass y.cls = some m.cls := findClass_of_methodNamed B.named
  have hin : meth.name = y.name := (name_of_methodNamed B.named B.method).1
  have hl := lv_entry av (n := maxL) hlen
  rw [lg_entry_eq]
  subst hsz
  exact body p e s m below meth c _ _ s.heap rfl B.exec B.bytes B.returns hml hown hts B.notSynchronized hin hP hK (hD0.self (sz := s.heap.size)) (fun q h => Or.inr h) va_S.rf hN ⟨hPo, hoA⟩ hX hXs hl
theorem MER {l : Launch} {y : MethodName} {cc : ByteArray} {maxL d : Nat} {ret : Option FieldType} {D : va_G} {cs : Nat → ClassId} {ws : va_W} {av : List Value} {Qc : Array Value → State → Outcome → State → Prop}
    (hy : plainName y.cls = true) (hlen : (lg_sl av).length ≤ maxL)
    (body : ∀ (p : Program) (e : Env) (s : State) (m : MethodId) (below : List Frame) (meth : Method) (c : Code) (ls : Array Slot) (H : Heap), H = s.heap → p.tables.exec = Jvm.exec → c.code = cc → meth.sig.returnType = ret → c.maxLocals = maxL → s.vm.findClass y.cls = some m.cls →
      (∀ w ∈ Cond.code y cc maxL ret :: TB, w.before av.toArray s = true) → meth.locks = false → va_P D vwCl ws H → va_K D vwCl (TY cs) s → NN s → lv_has ls maxL (lv_args 0 av) →
      W p l e (RM d 0 0) s m av.toArray below meth c H [] 0 0 (MQ below Qc av.toArray s 0 0 (fun _ => False)) (F0 m 0 ls [])) :
    Met l y (Cond.code y cc maxL ret :: TB) (RM d 0 0) (va_Pc av (PRR D cs ws)) Qc 0 0 (fun _ => False) := by
  refine Met.ofW (cc := cc) (maxL := maxL) (ret := ret) hy rfl ?_
  intro p e s m args below meth c s₁ B hml hv
  obtain ⟨rfl, hP, hK, hN⟩ := hv
  have hts := atoms_spec (ws := Cond.code y cc maxL ret :: TB) B.pre
  have hown : s.vm.findClass y.cls = some m.cls := findClass_of_methodNamed B.named
  have hl := lv_entry av (n := maxL) hlen
  rw [lg_entry_eq]
  exact body p e s m below meth c _ s.heap rfl B.exec B.bytes B.returns hml hown hts B.notSynchronized hP hK hN hl
/-- an answer of a kind, nothing changed -/
def QP (post : Value → Prop) : Array Value → State → Outcome → State → Prop := fun _ st o t => (∃ v, o = .returned (some v) ∧ post v) ∧ t.heap = st.heap
section TC
variable {p : Program} {l : Launch} {e : Env} {R : Room} {s : State} {m : MethodId} {args : Array Value} {below : List Frame} {meth : Method} {c : Code} {H : Heap} {locs : List Loc} {cells slots : Nat} {Q : State → Prop} {pc : Nat} {ls : Array Slot} {rest : List Value}
theorem tc_i {x : Int32} (y : Int32) (h : x = y) (k : W p l e R s m args below meth c H locs cells slots Q (F0 m pc ls (.int y :: rest))) : W p l e R s m args below meth c H locs cells slots Q (F0 m pc ls (.int x :: rest)) := by rw [h]; exact k
theorem tc_l {x : Int64} (y : Int64) (h : x = y) (k : W p l e R s m args below meth c H locs cells slots Q (F0 m pc ls (.long y :: rest))) : W p l e R s m args below meth c H locs cells slots Q (F0 m pc ls (.long x :: rest)) := by rw [h]; exact k
theorem tc_v {x : Value} (y : Value) (h : x = y) (k : W p l e R s m args below meth c H locs cells slots Q (F0 m pc ls (y :: rest))) : W p l e R s m args below meth c H locs cells slots Q (F0 m pc ls (x :: rest)) := by rw [h]; exact k
theorem cl_V {r : Value} {st0 : List Value} {a : Array Value} (hr : CallRun p l e R s m args below meth c H locs cells slots 0 0 (F0 m pc ls st0) rest (k2_QcV r a) (fun _ => False)) (kk : W p l e R s m args below meth c H locs cells slots Q (F0 m (pc + 3) ls (r :: rest))) : W p l e R s m args below meth c H locs cells slots Q (F0 m pc ls st0) := W.callV hr kk
theorem cl_P {post : Value → Prop} {st0 : List Value} {a : Array Value} (hr : CallRun p l e R s m args below meth c H locs cells slots 0 0 (F0 m pc ls st0) rest (QP post a) (fun _ => False)) (kk : ∀ r, post r → W p l e R s m args below meth c H locs cells slots Q (F0 m (pc + 3) ls (r :: rest))) : W p l e R s m args below meth c H locs cells slots Q (F0 m pc ls st0) := by
  intro T hT X
  obtain ⟨v, st₀, t, T', L, h0, X', hL, e1, ⟨⟨r, hv, hp⟩, hh⟩, st⟩ := hr T hT X
  cases hv
  obtain ⟨t2, a1, b1⟩ := kk r hp T' (by rw [e1, hh, h0]) (Stand.forget X' (fun q h => (hL q h).elim))
  exact ⟨t2, st t2 a1, b1⟩
/-- a loop: what holds at its head, by what changes; a number that falls -/
theorem w_wh {σ : Type} (I : σ → Heap → List Loc → Array Slot → Prop) (μ : σ → Nat) (pc0 : Nat)
    (hs : ∀ x H locs ls, I x H locs ls → (∀ y H locs ls, I y H locs ls → μ y < μ x → W p l e R s m args below meth c H locs cells slots Q (F0 m pc0 ls [])) → W p l e R s m args below meth c H locs cells slots Q (F0 m pc0 ls [])) :
    ∀ x H locs ls, I x H locs ls → W p l e R s m args below meth c H locs cells slots Q (F0 m pc0 ls []) := by
  have key : ∀ n x, μ x ≤ n → ∀ H locs ls, I x H locs ls → W p l e R s m args below meth c H locs cells slots Q (F0 m pc0 ls []) := by
    intro n
    induction n with
    | zero => intro x hx H locs ls hI; exact hs x H locs ls hI (fun y _ _ _ _ h => by omega)
    | succ n ih => intro x hx H locs ls hI; exact hs x H locs ls hI (fun y H2 l2 s2 h2 h => ih y (by omega) H2 l2 s2 h2)
  intro x H locs ls hI
  exact key (μ x) x (Nat.le_refl _) H locs ls hI
/-- a place where ways meet: what holds there, by what may differ -/
theorem w_cut {σ : Type} (J : σ → Heap → List Loc → Array Slot → Prop) (pj : Nat) (stk : σ → List Value) {g : JFrame}
    (hj : ∀ x H locs ls, J x H locs ls → W p l e R s m args below meth c H locs cells slots Q (F0 m pj ls (stk x)))
    (k : (∀ x H locs ls, J x H locs ls → W p l e R s m args below meth c H locs cells slots Q (F0 m pj ls (stk x))) → W p l e R s m args below meth c H locs cells slots Q g) : W p l e R s m args below meth c H locs cells slots Q g := k hj
end TC
theorem vi_c {i : Int32} {n : Nat} (h : (decide (i < 0) || Nat.ble n i.toNatClampNeg) = false) : vp_in i n := by
  intro q
  rw [Bool.or_eq_false_iff] at h
  rcases q with q | q
  · exact absurd q (of_decide_eq_false h.1)
  · have h2 := Nat.ble_eq_true_of_le q
    rw [h.2] at h2
    cases h2
/-! ===== numbers by their bounds ===== -/
def Rg (lo hi : Int) (x : Int32) : Prop := lo ≤ x.toInt ∧ x.toInt ≤ hi
theorem i_lt (a b : Int32) : a < b ↔ a.toInt < b.toInt := Int32.lt_iff_toInt_lt
theorem i_le (a b : Int32) : a ≤ b ↔ a.toInt ≤ b.toInt := Int32.le_iff_toInt_le
theorem Rg.top (x : Int32) : Rg (-2147483648) 2147483647 x := ⟨Int32.le_toInt x, by have := Int32.toInt_lt x; omega⟩
theorem Rg.c {c : Int32} {k : Int} (h : c.toInt = k) : Rg k k c := ⟨by omega, by omega⟩
theorem Rg.wk {lo hi lo2 hi2 : Int} {x : Int32} (h : Rg lo hi x) (h2 : lo2 ≤ lo ∧ hi ≤ hi2) : Rg lo2 hi2 x := ⟨by have := h.1; omega, by have := h.2; omega⟩
theorem Rg.of {lo hi : Int} {x y : Int32} (e : x = y) (h : Rg lo hi y) : Rg lo hi x := by rw [e]; exact h
theorem t_wrap {z : Int} (h1 : -2147483648 ≤ z) (h2 : z ≤ 2147483647) : z.bmod (2 ^ 32) = z := by
  rw [Int.bmod_eq_of_le] <;> omega
theorem t_add {x a b : Int32} (e : x = a + b) (h1 : -2147483648 ≤ a.toInt + b.toInt) (h2 : a.toInt + b.toInt ≤ 2147483647) : x.toInt = a.toInt + b.toInt := by
  rw [e, Int32.toInt_add]; exact t_wrap h1 h2
theorem t_sub {x a b : Int32} (e : x = a - b) (h1 : -2147483648 ≤ a.toInt - b.toInt) (h2 : a.toInt - b.toInt ≤ 2147483647) : x.toInt = a.toInt - b.toInt := by
  rw [e, Int32.toInt_sub]; exact t_wrap h1 h2
theorem t_mul {x a b : Int32} (e : x = a * b) (h1 : -2147483648 ≤ a.toInt * b.toInt) (h2 : a.toInt * b.toInt ≤ 2147483647) : x.toInt = a.toInt * b.toInt := by
  rw [e, Int32.toInt_mul]; exact t_wrap h1 h2
theorem Rg.addE {x a b : Int32} {la ha lb hb : Int} (e : x = a + b) (ra : Rg la ha a) (rb : Rg lb hb b) (h : -2147483648 ≤ la + lb ∧ ha + hb ≤ 2147483647) : x.toInt = a.toInt + b.toInt :=
  t_add e (by have := ra.1; have := rb.1; omega) (by have := ra.2; have := rb.2; omega)
theorem Rg.add {x a b : Int32} {la ha lb hb lo hi : Int} (e : x = a + b) (ra : Rg la ha a) (rb : Rg lb hb b) (h : -2147483648 ≤ la + lb ∧ ha + hb ≤ 2147483647 ∧ lo ≤ la + lb ∧ ha + hb ≤ hi) : Rg lo hi x := by
  have h2 := Rg.addE e ra rb ⟨h.1, h.2.1⟩
  exact ⟨by have := ra.1; have := rb.1; omega, by have := ra.2; have := rb.2; omega⟩
theorem Rg.subE {x a b : Int32} {la ha lb hb : Int} (e : x = a - b) (ra : Rg la ha a) (rb : Rg lb hb b) (h : -2147483648 ≤ la - hb ∧ ha - lb ≤ 2147483647) : x.toInt = a.toInt - b.toInt :=
  t_sub e (by have := ra.1; have := rb.2; omega) (by have := ra.2; have := rb.1; omega)
theorem Rg.sub {x a b : Int32} {la ha lb hb lo hi : Int} (e : x = a - b) (ra : Rg la ha a) (rb : Rg lb hb b) (h : -2147483648 ≤ la - hb ∧ ha - lb ≤ 2147483647 ∧ lo ≤ la - hb ∧ ha - lb ≤ hi) : Rg lo hi x := by
  have h2 := Rg.subE e ra rb ⟨h.1, h.2.1⟩
  exact ⟨by have := ra.1; have := rb.2; omega, by have := ra.2; have := rb.1; omega⟩
theorem Rg.mul {x a b : Int32} {ha hb hi : Int} (e : x = a * b) (ra : Rg 0 ha a) (rb : Rg 0 hb b) (h : ha * hb ≤ 2147483647 ∧ ha * hb ≤ hi) : Rg 0 hi x := by
  have h0 : 0 ≤ a.toInt * b.toInt := Int.mul_nonneg ra.1 rb.1
  have h1 : a.toInt * b.toInt ≤ ha * hb := Int.mul_le_mul ra.2 rb.2 rb.1 (Int.le_trans ra.1 ra.2)
  have h2 := t_mul e (by omega) (by omega)
  exact ⟨by omega, by omega⟩
theorem Rg.lt_l {a b : Int32} {la ha lb hb lo hi : Int} (c : a < b) (ra : Rg la ha a) (rb : Rg lb hb b) (h : lo ≤ la ∧ (ha ≤ hi ∨ hb - 1 ≤ hi)) : Rg lo hi a := by
  rw [i_lt] at c; exact ⟨by have := ra.1; omega, by have := ra.2; have := rb.2; omega⟩
theorem Rg.lt_r {a b : Int32} {la ha lb hb lo hi : Int} (c : a < b) (ra : Rg la ha a) (rb : Rg lb hb b) (h : hb ≤ hi ∧ (lo ≤ lb ∨ lo ≤ la + 1)) : Rg lo hi b := by
  rw [i_lt] at c; exact ⟨by have := ra.1; have := rb.1; omega, by have := rb.2; omega⟩
theorem Rg.le_l {a b : Int32} {la ha lb hb lo hi : Int} (c : a ≤ b) (ra : Rg la ha a) (rb : Rg lb hb b) (h : lo ≤ la ∧ (ha ≤ hi ∨ hb ≤ hi)) : Rg lo hi a := by
  rw [i_le] at c; exact ⟨by have := ra.1; omega, by have := ra.2; have := rb.2; omega⟩
theorem Rg.le_r {a b : Int32} {la ha lb hb lo hi : Int} (c : a ≤ b) (ra : Rg la ha a) (rb : Rg lb hb b) (h : hb ≤ hi ∧ (lo ≤ lb ∨ lo ≤ la)) : Rg lo hi b := by
  rw [i_le] at c; exact ⟨by have := ra.1; have := rb.1; omega, by have := rb.2; omega⟩
theorem nlt_le {a b : Int32} (h : ¬ a < b) : b ≤ a := by rw [i_lt] at h; rw [i_le]; omega
theorem nle_lt {a b : Int32} (h : ¬ a ≤ b) : b < a := by rw [i_le] at h; rw [i_lt]; omega
theorem Rg.eq_l {a b : Int32} {la ha lb hb lo hi : Int} (c : a = b) (ra : Rg la ha a) (rb : Rg lb hb b) (h : (lo ≤ la ∨ lo ≤ lb) ∧ (ha ≤ hi ∨ hb ≤ hi)) : Rg lo hi a := by
  subst c; exact ⟨by have := ra.1; have := rb.1; omega, by have := ra.2; have := rb.2; omega⟩
theorem Rg.ne {a b : Int32} {la ha k lo hi : Int} (c : ¬ a = b) (ra : Rg la ha a) (rb : Rg k k b) (h : (lo ≤ la ∨ la = k ∧ lo = k + 1) ∧ (ha ≤ hi ∨ ha = k ∧ hi = k - 1)) : Rg lo hi a := by
  have h1 : a.toInt ≠ b.toInt := fun q => c (Int32.toInt_inj.mp q)
  have := ra.1; have := ra.2; have := rb.1; have := rb.2
  exact ⟨by omega, by omega⟩
theorem Rg.in {lo hi : Int} {x : Int32} {n : Nat} (h : Rg lo hi x) (h2 : 0 ≤ lo ∧ hi < n) : vp_in x n := by
  rw [vp_in_iff]; have := h.1; have := h.2; omega
theorem Rg.and {x a b : Int32} {lb hb hi : Int} (e : x = a &&& b) (rb : Rg lb hb b) (h : 0 ≤ lb ∧ hb ≤ hi) : Rg 0 hi x := by
  have h0 := rb.1; have h1 := rb.2
  have e1 : x.toBitVec.toNat = a.toBitVec.toNat &&& b.toBitVec.toNat := by rw [e]; rfl
  have h2 : x.toBitVec.toNat ≤ b.toBitVec.toNat := by rw [e1]; exact Nat.and_le_right
  have h3 : b.toInt = b.toBitVec.toInt := rfl
  have h4 : x.toInt = x.toBitVec.toInt := rfl
  have h5 := BitVec.toInt_eq_toNat_cond b.toBitVec
  have h6 := BitVec.toInt_eq_toNat_cond x.toBitVec
  have h7 := b.toBitVec.isLt
  refine ⟨?_, ?_⟩ <;> (rw [h4, h6]; rw [h3, h5] at h0 h1; split at h0 <;> split at h1 <;> split <;> omega)
theorem Rg.andl {x a b : Int32} {la ha hi : Int} (e : x = a &&& b) (ra : Rg la ha a) (h : 0 ≤ la ∧ ha ≤ hi) : Rg 0 hi x := by
  refine Rg.and (a := b) (b := a) ?_ ra h
  rw [e]
  apply Int32.toBitVec_inj.mp
  show a.toBitVec &&& b.toBitVec = b.toBitVec &&& a.toBitVec
  exact BitVec.and_comm _ _
theorem ar_upd {f : Nat → Int32} {n k : Nat} {x : Int32} {lo hi : Int} (h : ∀ j, j < n → Rg lo hi (f j)) (hx : Rg lo hi x) : ∀ j, j < n → Rg lo hi (upd f k x j) := by
  intro j hj
  unfold upd
  by_cases q : j = k
  · rw [if_pos q]; exact hx
  · rw [if_neg q]; exact h j hj
theorem in_lt {i : Int32} {n : Nat} (h : vp_in i n) : i.toNatClampNeg < n := Nat.not_le.mp fun q => h (Or.inr q)
theorem ms_up {x i c : Int32} {lo hi k K : Int} (e : x = i + c) (r : Rg lo hi i) (rc : Rg k k c) (h : 0 < k ∧ hi < K ∧ hi + k ≤ 2147483647 ∧ -2147483648 ≤ lo + k) : (K - x.toInt).toNat < (K - i.toInt).toNat := by
  have h2 := Rg.addE e r rc ⟨by omega, by omega⟩
  have := r.1; have := r.2; have := rc.1; have := rc.2
  omega
theorem ms_dn {x i c : Int32} {lo hi k K : Int} (e : x = i + c) (r : Rg lo hi i) (rc : Rg k k c) (h : k < 0 ∧ K < lo ∧ hi + k ≤ 2147483647 ∧ -2147483648 ≤ lo + k) : (x.toInt - K).toNat < (i.toInt - K).toNat := by
  have h2 := Rg.addE e r rc ⟨by omega, by omega⟩
  have := r.1; have := r.2; have := rc.1; have := rc.2
  omega
theorem Rg.no_lt {a b : Int32} {la ha lb hb : Int} (c : a < b) (ra : Rg la ha a) (rb : Rg lb hb b) (h : hb ≤ la) : False := by
  rw [i_lt] at c; have := ra.1; have := rb.2; omega
theorem Rg.no_le {a b : Int32} {la ha lb hb : Int} (c : a ≤ b) (ra : Rg la ha a) (rb : Rg lb hb b) (h : hb < la) : False := by
  rw [i_le] at c; have := ra.1; have := rb.2; omega
theorem Rg.no_eq {a b : Int32} {la ha lb hb : Int} (c : a = b) (ra : Rg la ha a) (rb : Rg lb hb b) (h : hb < la ∨ ha < lb) : False := by
  subst c; have := ra.1; have := ra.2; have := rb.1; have := rb.2; omega
theorem Rg.no_ne {a b : Int32} {k : Int} (c : ¬ a = b) (ra : Rg k k a) (rb : Rg k k b) (_ : True) : False :=
  c (Int32.toInt_inj.mp (by have := ra.1; have := ra.2; have := rb.1; have := rb.2; omega))
theorem Rg.self_lt {a : Int32} (c : a < a) : False := by rw [i_lt] at c; omega
theorem Rg.self_gt {a : Int32} (c : a < a) : False := by rw [i_lt] at c; omega
theorem Rg.self_ne {a : Int32} (c : ¬ a = a) : False := c rfl
theorem Rg.nz {lo hi : Int} {x : Int32} (h : Rg lo hi x) (h2 : 0 < lo ∨ hi < 0) : ¬ x = 0 := by
  intro q; subst q
  have e0 : Int32.toInt 0 = 0 := rfl
  have := h.1; have := h.2; omega
theorem Rg.i2c {x v : Int32} (e : (x.toUInt32 % 65536).toInt32 = v) : Rg 0 65535 v := by
  rw [pk_char] at e
  rw [← e]
  have h1 : x.toBitVec.toNat % 65536 < 65536 := Nat.mod_lt _ (by decide)
  have h2 := nI_toInt (n := x.toBitVec.toNat % 65536) (by omega)
  exact ⟨by omega, by omega⟩
theorem Rg.shr {x a s : Int32} {lo hi : Int} {k : Nat} (e : x = a >>> (s &&& 31)) (ra : Rg lo hi a) (hs : ((s &&& 31).toBitVec.smod 32).toNat = k) {lo2 hi2 : Int} (h : lo2 ≤ lo / ((2 ^ k : Nat) : Int) ∧ hi / ((2 ^ k : Nat) : Int) ≤ hi2) : Rg lo2 hi2 x := by
  have h1 := pk_shr a (s &&& 31) k hs
  rw [← e, Int.shiftRight_eq_div_pow] at h1
  have h0 : (0 : Int) < ((2 ^ k : Nat) : Int) := Int.ofNat_lt.mpr (Nat.two_pow_pos k)
  have ha := Int.ediv_le_ediv h0 ra.1
  have hb := Int.ediv_le_ediv h0 ra.2
  have h2 : x.toInt = a.toInt / ((2 ^ k : Nat) : Int) := h1
  exact ⟨Int.le_trans h.1 (by rw [h2]; exact ha), Int.le_trans (by rw [h2]; exact hb) h.2⟩
theorem nar_b {v : Int32} (r : Rg 0 1 v) : narrow .boolean (.int v) = .int v := by
  have h1 := r.1; have h2 := r.2
  have h3 : v.toInt = 0 ∨ v.toInt = 1 := by omega
  rcases h3 with h3 | h3
  · have : v = 0 := Int32.toInt_inj.mp h3
    subst this; rfl
  · have : v = 1 := Int32.toInt_inj.mp h3
    subst this; rfl
theorem cmp_r (x y : Int64) : Rg (-1) 1 (lg_cmp x y) := by
  unfold lg_cmp
  by_cases h1 : x > y
  · rw [if_pos h1]; exact ⟨by decide, by decide⟩
  · rw [if_neg h1]
    by_cases h3 : x = y
    · rw [if_pos h3]; exact ⟨by decide, by decide⟩
    · rw [if_neg h3]; exact ⟨by decide, by decide⟩
theorem fit_b {v : Int32} (r : Rg 0 1 v) : fits .boolean (.int v) = true := by
  have h1 := r.1; have h2 := r.2
  have h3 : v.toInt = 0 ∨ v.toInt = 1 := by omega
  rcases h3 with h3 | h3
  · have : v = 0 := Int32.toInt_inj.mp h3
    subst this; rfl
  · have : v = 1 := Int32.toInt_inj.mp h3
    subst this; rfl
theorem r_nI {a : Int32} {hi : Int} (h : Rg 0 hi a) : ∃ n : Nat, a = nI n ∧ n < 2 ^ 31 ∧ (n : Int) = a.toInt := by
  obtain ⟨n, hn, e⟩ := nI_of (x := a) (by rw [i_lt]; have := h.1; have e0 : Int32.toInt 0 = 0 := rfl; omega)
  exact ⟨n, e, hn, by rw [e, nI_toInt hn]⟩
theorem s_31 : ∀ n, n < 32 → ((nI n &&& 31).toBitVec.smod 32).toNat = n := by decide +kernel
theorem Rg.shl {x a b : Int32} {ha k : Nat} {hi : Int} (e : x = a <<< (b &&& 31)) (ra : Rg 0 (ha : Int) a) (rb : Rg 0 (k : Int) b) (h : k ≤ 30 ∧ ha * 2 ^ k < 2 ^ 31) (h9 : ((ha * 2 ^ k : Nat) : Int) ≤ hi) : Rg 0 hi x := by
  obtain ⟨n, rfl, hn, en⟩ := r_nI ra
  obtain ⟨j, rfl, hj, ej⟩ := r_nI rb
  have h1 := rb.2; have h2 := ra.2
  have hjk : j ≤ k := by omega
  have hna : n ≤ ha := by omega
  have hm : n * 2 ^ j ≤ ha * 2 ^ k := Nat.mul_le_mul hna (Nat.pow_le_pow_right (by decide) hjk)
  have h5 : n * 2 ^ j < 2 ^ 31 := Nat.lt_of_le_of_lt hm h.2
  rw [e, pk_shlN _ j (s_31 j (by omega)) (by omega)]
  have h6 := nI_toInt h5
  have h7 : ((n * 2 ^ j : Nat) : Int) ≤ ((ha * 2 ^ k : Nat) : Int) := Int.ofNat_le.mpr hm
  exact ⟨by rw [h6]; exact Int.natCast_nonneg _, by rw [h6]; exact Int.le_trans h7 h9⟩
theorem nI_or (a b : Nat) : nI a ||| nI b = nI (a ||| b) := by
  apply Int32.toBitVec_inj.1
  show BitVec.ofNat 32 a ||| BitVec.ofNat 32 b = BitVec.ofNat 32 (a ||| b)
  apply BitVec.eq_of_getLsbD_eq
  intro i hi
  simp [hi]
theorem Rg.or {x a b : Int32} {ha hb hi : Int} {k : Nat} (e : x = a ||| b) (ra : Rg 0 ha a) (rb : Rg 0 hb b) (h : ha < ((2 ^ k : Nat) : Int) ∧ hb < ((2 ^ k : Nat) : Int)) (h9 : k ≤ 30 ∧ ((2 ^ k : Nat) : Int) - 1 ≤ hi) : Rg 0 hi x := by
  obtain ⟨n, rfl, hn, en⟩ := r_nI ra
  obtain ⟨j, rfl, hj, ej⟩ := r_nI rb
  have h1 := rb.2; have h2 := ra.2
  have hn2 : n < 2 ^ k := by have := h.1; omega
  have hj2 : j < 2 ^ k := by have := h.2; omega
  have h3 := Nat.or_lt_two_pow hn2 hj2
  have h4 : (2 : Nat) ^ k ≤ 2 ^ 30 := Nat.pow_le_pow_right (by decide) h9.1
  rw [e, nI_or]
  have h6 := nI_toInt (n := n ||| j) (by omega)
  exact ⟨by omega, by have := h9.2; omega⟩
theorem Rg.shrn {x a b : Int32} {hi : Int} (e : x = a >>> (b &&& 31)) (ra : Rg 0 hi a) : Rg 0 hi x := by
  obtain ⟨n, rfl, hn, en⟩ := r_nI ra
  obtain ⟨j, hj, ej⟩ := pk_andE b (m := 31) 5 rfl
  have hs : ((b &&& 31).toBitVec.smod 32).toNat = j := by
    have := s_31 j hj
    rw [show nI j &&& 31 = nI j from by rw [pk_andN (by omega) 5 rfl, Nat.mod_eq_of_lt hj]] at this
    rw [ej]; exact this
  rw [e, pk_shrN hn _ j hs]
  have h1 : n / 2 ^ j ≤ n := Nat.div_le_self _ _
  generalize n / 2 ^ j = k at h1 ⊢
  have h6 := nI_toInt (n := k) (by omega)
  have := ra.2
  exact ⟨by omega, by omega⟩
theorem Rg.div {x a b : Int32} {ah bl bh : Nat} {hi : Int} (e : x = a / b) (ra : Rg 0 (ah : Int) a) (rb : Rg (bl : Int) (bh : Int) b) (h : 0 < bl) (h9 : ((ah / bl : Nat) : Int) ≤ hi) : Rg 0 hi x := by
  obtain ⟨n, rfl, hn, en⟩ := r_nI ra
  obtain ⟨j, rfl, hj, ej⟩ := r_nI (a := b) (hi := bh) ⟨by have := rb.1; omega, rb.2⟩
  have h1 := ra.2; have h2 := rb.1
  rw [e, pk_div hn (by omega) hj]
  have h3 : n / j ≤ ah / bl := Nat.le_trans (Nat.div_le_div_right (by omega)) (Nat.div_le_div_left (by omega) h)
  have h4 : n / j ≤ n := Nat.div_le_self _ _
  have h6 := nI_toInt (n := n / j) (by omega)
  have h7 : ((n / j : Nat) : Int) ≤ ((ah / bl : Nat) : Int) := Int.ofNat_le.mpr h3
  exact ⟨by rw [h6]; exact Int.natCast_nonneg _, by rw [h6]; exact Int.le_trans h7 h9⟩
theorem Rg.rem {x a b : Int32} {ah bl bh hi : Int} (e : x = a - a / b * b) (ra : Rg 0 ah a) (rb : Rg bl bh b) (h : 0 < bl ∧ (bh - 1 ≤ hi ∨ ah ≤ hi)) : Rg 0 hi x := by
  obtain ⟨n, rfl, hn, en⟩ := r_nI ra
  obtain ⟨j, rfl, hj, ej⟩ := r_nI (a := b) (hi := bh) ⟨by have := rb.1; omega, rb.2⟩
  have h1 := ra.2; have h2 := rb.1; have h3 := rb.2
  rw [e, pk_rem hn (by omega) hj]
  have h4 : n % j < j := Nat.mod_lt _ (by omega)
  have h5 : n % j ≤ n := Nat.mod_le _ _
  have h6 := nI_toInt (n := n % j) (by omega)
  exact ⟨by omega, by omega⟩
theorem hb_r {b lb : Int32} {lo hi k : Int} (h : 0 ≤ b.toInt ∧ b.toInt < lb.toInt) (r : Rg lo hi lb) (hh : hi - 1 ≤ k) : Rg 0 k b := ⟨h.1, by have := r.2; omega⟩
theorem hb_0 {b lb x : Int32} (h : x = 0) : ¬ x = 0 → 0 ≤ b.toInt ∧ b.toInt < lb.toInt := fun q => absurd h q
theorem hb_1 {b lb x : Int32} {lo hi : Int} (r : Rg lo hi b) (h : 0 ≤ lo) (h2 : b < lb) : ¬ x = 0 → 0 ≤ b.toInt ∧ b.toInt < lb.toInt := fun _ => ⟨by have := r.1; omega, (i_lt _ _).mp h2⟩
theorem Rg.mmin {z x y : Int32} {lx hx ly hy lo hi : Int} (e : z = if y < x then y else x) (rx : Rg lx hx x) (ry : Rg ly hy y) (h : lo ≤ lx ∧ lo ≤ ly ∧ (hx ≤ hi ∨ hy ≤ hi)) : Rg lo hi z := by
  have := rx.1; have := rx.2; have := ry.1; have := ry.2
  by_cases q : y < x
  · rw [if_pos q] at e; subst e; rw [i_lt] at q; exact ⟨by omega, by omega⟩
  · rw [if_neg q] at e; subst e; rw [i_lt] at q; exact ⟨by omega, by omega⟩
theorem Rg.mmax {z x y : Int32} {lx hx ly hy lo hi : Int} (e : z = if x < y then y else x) (rx : Rg lx hx x) (ry : Rg ly hy y) (h : hx ≤ hi ∧ hy ≤ hi ∧ (lo ≤ lx ∨ lo ≤ ly)) : Rg lo hi z := by
  have := rx.1; have := rx.2; have := ry.1; have := ry.2
  by_cases q : x < y
  · rw [if_pos q] at e; subst e; rw [i_lt] at q; exact ⟨by omega, by omega⟩
  · rw [if_neg q] at e; subst e; rw [i_lt] at q; exact ⟨by omega, by omega⟩
theorem ka_eq {D : va_G} {cs : Nat → ClassId} {cA : ClassId} {ty : FieldType} {s : State} (k : Nat) (hk : (TY cs)[k]? = some (cs k, ty)) (hr : ∀ c : ClassId, va_RA s c ty = (s.vm.findClass ("[" ++ ty.toString) = some c)) (h : va_K D vwCl (TY cs ++ [(cA, ty)]) s) : cA = cs k := by
  have h1 := (h.2 5 (cA, ty) rfl).2
  have hl : (TY cs ++ [(cA, ty)])[k]? = some (cs k, ty) := by
    have hlt : k < (TY cs).length := (List.getElem?_eq_some_iff.mp hk).1
    rw [List.getElem?_append_left hlt]; exact hk
  have h2 := (h.2 k (cs k, ty) hl).2
  rw [hr] at h1 h2
  exact Option.some.inj (h1.symm.trans h2)
theorem ar_P {D : va_G} {ws : va_W} {H : Heap} {a n : Nat} {cA : ClassId} {f g : Nat → Int32} (h : va_P D vwCl ws H) (k : Nat) (hk : ws[k]? = some (a, .inl (cA, n, .inl f))) (hfg : ∀ j, j < n → f j = g j) : va_P D vwCl (ws.set k (a, .inl (cA, n, .inl g))) H := by
  intro i q hq
  by_cases hik : k = i
  · subst hik
    have hlt : k < ws.length := (List.getElem?_eq_some_iff.mp hk).1
    rw [List.getElem?_set_self hlt] at hq
    cases hq
    have h1 := h k _ hk
    show H[a]? = some (vp_cell cA (n, .inl g))
    have h2 : H[a]? = some (vp_cell cA (n, .inl f)) := h1
    rw [h2]
    simp only [vp_cell, arrV]
    congr 3
    funext j
    rw [hfg j.val j.isLt]
  · rw [List.getElem?_set_ne hik] at hq
    exact h i q hq
