/-! ===== texts that the code holds ===== -/
def slen : List Nat := [62, 3, 68, 2, 3, 3, 2]
def sbyt : List (List Int32) := [[114, 111, 119, 32, 103, 111, 110, 101, 32, 115, 101, 119, 110, 32, 115, 111, 114, 116, 32, 116, 97, 107, 101, 115, 32, 105, 110, 32, 117, 110, 100, 111, 32, 100, 111, 32, 116, 105, 101, 32, 98, 101, 115, 105, 100, 101, 32, 110, 101, 118, 101, 114, 32, 119, 111, 114, 116, 104, 32, 101, 121, 101], [97, 99, 116], [100, 111, 110, 101, 32, 98, 117, 116, 116, 111, 110, 32, 104, 111, 108, 101, 32, 114, 105, 103, 104, 116, 32, 111, 112, 101, 110, 32, 119, 114, 111, 110, 103, 32, 114, 117, 110, 32, 97, 102, 116, 101, 114, 32, 115, 101, 99, 111, 110, 100, 115, 32, 99, 108, 111, 99, 107, 32, 115, 101, 101, 110, 32, 119, 111, 114, 116, 104], [105, 102], [110, 111, 116], [97, 110, 100], [111, 114]]
def SR (sa : Nat → Nat) (U : State) : Prop := vk_R "WrongHole$LiftReader" 23 "row gone sewn sort takes in undo do tie beside never worth eye" (sa 0) U ∧ vk_R "WrongHole$RuleReader" 34 "act" (sa 1) U ∧ vk_R "WrongHole$RuleReader" 92 "done button hole right open wrong run after seconds clock seen worth" (sa 2) U ∧ vk_R "WrongHole$RuleReader" 51 "if" (sa 3) U ∧ vk_R "WrongHole$RuleReader" 108 "not" (sa 4) U ∧ vk_R "WrongHole$RuleReader" 104 "and" (sa 5) U ∧ vk_R "WrongHole$RuleReader" 106 "or" (sa 6) U
def SX (sa sv : Nat → Nat) : XX := fun A U H => vk_S 7 slen sbyt sa sv A U H ∧ SR sa U ∧ va_Z "java/lang/String" "COMPACT_STRINGS" "Z" (.int 1) A U H ∧ va_Zq "jdk/internal/util/Preconditions" "SIOOBE_FORMATTER" "Ljava/util/function/BiFunction;" A U H
theorem SR.warm {sa : Nat → Nat} {s U : State} (hW : s.WarmedH U.vm) (h : SR sa s) : SR sa U := ⟨h.1.warm hW, h.2.1.warm hW, h.2.2.1.warm hW, h.2.2.2.1.warm hW, h.2.2.2.2.1.warm hW, h.2.2.2.2.2.1.warm hW, h.2.2.2.2.2.2.warm hW⟩
theorem SR.same {sa : Nat → Nat} {s U : State} (hv : U.vm = s.vm) (h : SR sa s) : SR sa U := ⟨h.1.same hv, h.2.1.same hv, h.2.2.1.same hv, h.2.2.2.1.same hv, h.2.2.2.2.1.same hv, h.2.2.2.2.2.1.same hv, h.2.2.2.2.2.2.same hv⟩
theorem al_of {u U : State} (h : u.vm = U.vm) : u.vm.Alike U.vm := h ▸ Vm.Alike.refl u.vm
theorem SX_ok (sa sv : Nat → Nat) : XOK (SX sa sv) :=
  ⟨fun A B U H h hAB => ⟨h.1.narrow hAB, h.2.1, h.2.2.1.narrow hAB, h.2.2.2.narrow hAB⟩,
   fun A u U H hW h => ⟨h.1.moved hW.alike, h.2.1.warm hW, h.2.2.1.moved hW.alike, h.2.2.2.moved hW.alike⟩,
   fun A u U H hv h => ⟨h.1.moved (al_of hv), h.2.1.same hv.symm, h.2.2.1.moved (al_of hv), h.2.2.2.moved (al_of hv)⟩,
   fun A U H H1 h hq => ⟨h.1.kept hq, h.2.1, h.2.2.1.kept hq, h.2.2.2.kept hq⟩⟩
def PRX (D : va_G) (cs : Nat → ClassId) (X : XX) (ws : va_W) (U : State) : Prop := PRR D cs ws U ∧ XOK X ∧ X (fun _ => False) U U.heap
theorem PRX.blind {D : va_G} {cs : Nat → ClassId} {X : XX} {ws : va_W} {av : List Value} : FrameBlind (va_Pc av (PRX D cs X ws)) :=
  fun a U g mk q => ⟨q.1, (PRR.blind (D := D) (cs := cs) (ws := ws) (av := av) a U g mk ⟨q.1, q.2.1⟩).2, q.2.2.1, q.2.2.1.2.2.1 _ U (U.calling g mk a) _ rfl q.2.2.2⟩
theorem px_S {D : va_G} {cs : Nat → ClassId} {X : XX} {ws : va_W} {A : Nat → Prop} {H : Heap} {locs : List Loc} {s : State} {As : List Value} (hP : va_P D vwCl ws H) (hK : va_K D vwCl (TY cs) s) (hN : NN s) (hX : XOK X) (hXs : X A s s.heap) (hS : va_S A s.heap H locs) : PreS s H (va_Pc As (PRX D cs X ws)) As :=
  ⟨PRX.blind, fun U hU hW => ⟨rfl, ⟨by rw [hU]; exact hP, va_K.moved hW.alike hK, hN.warm hW⟩, hX, by rw [hU]; exact hX.2.1 _ s U _ hW (hX.1 _ _ _ _ (hX.2.2.2 _ _ _ _ hXs hS.2.1) (fun _ h => h.elim))⟩⟩
theorem px_V {D : va_G} {cs : Nat → ClassId} {X : XX} {ws : va_W} {A : Nat → Prop} {H : Heap} {locs : List Loc} {s : State} {b q0 ci : Nat} {r : vw_C} {fs : List Value} {As : List Value} (hP : va_P D vwCl ws H) (hK : va_K D vwCl (TY cs) s) (hN : NN s) (hX : XOK X) (hXs : X A s s.heap) (hS : va_S A s.heap H locs) (hc : vwCl[ci]? = some r) (he : ws[q0]? = some (b, .inr (ci, fs))) : PreV s H r.1 b (va_Pc (.ref b :: As) (PRX D cs X ws)) As :=
  ⟨PRX.blind, va_recv hK hP hc he, (px_S hP hK hN hX hXs hS).2⟩
/-- the same, called on a text -/
theorem px_T {D : va_G} {cs : Nat → ClassId} {sa sv : Nat → Nat} {ws : va_W} {A : Nat → Prop} {H : Heap} {locs : List Loc} {s : State} {i : Nat} {As : List Value} (hP : va_P D vwCl ws H) (hK : va_K D vwCl (TY cs) s) (hN : NN s) (hX : XOK (SX sa sv)) (hXs : SX sa sv A s s.heap) (hS : va_S A s.heap H locs) (hi : i < 7) : PreV s H "java/lang/String" (sa i) (va_Pc (.ref (sa i) :: As) (PRX D cs (SX sa sv) ws)) As :=
  ⟨PRX.blind, vk_recv hXs.1 hi hS, (px_S hP hK hN hX hXs hS).2⟩
theorem MEX {l : Launch} {y : MethodName} {cc : ByteArray} {maxL d : Nat} {ret : Option FieldType} {D : va_G} {cs : Nat → ClassId} {X : XX} {ws : va_W} {av : List Value} {Qc : Array Value → State → Outcome → State → Prop}
    (hy : plainName y.cls = true) (hlen : (lg_sl av).length ≤ maxL)
    (body : ∀ (p : Program) (e : Env) (s : State) (m : MethodId) (below : List Frame) (meth : Method) (c : Code) (ls : Array Slot) (H : Heap), H = s.heap → p.tables.exec = Jvm.exec → c.code = cc → meth.sig.returnType = ret → c.maxLocals = maxL → s.vm.findClass y.cls = some m.cls →
      (∀ w ∈ Cond.code y cc maxL ret :: TB, w.before av.toArray s = true) → meth.locks = false → va_P D vwCl ws H → va_K D vwCl (TY cs) s → NN s → XOK X → X (fun _ => False) s s.heap → lv_has ls maxL (lv_args 0 av) →
      W p l e (RM d 0 0) s m av.toArray below meth c H [] 0 0 (MQ below Qc av.toArray s 0 0 (fun _ => False)) (F0 m 0 ls [])) :
    Met l y (Cond.code y cc maxL ret :: TB) (RM d 0 0) (va_Pc av (PRX D cs X ws)) Qc 0 0 (fun _ => False) := by
  refine Met.ofW (cc := cc) (maxL := maxL) (ret := ret) hy rfl ?_
  intro p e s m args below meth c s₁ B hml hv
  obtain ⟨rfl, ⟨hP, hK, hN⟩, hX, hXs⟩ := hv
  have hts := atoms_spec (ws := Cond.code y cc maxL ret :: TB) B.pre
  have hown : s.vm.findClass y.cls = some m.cls := findClass_of_methodNamed B.named
  have hl := lv_entry av (n := maxL) hlen
  rw [lg_entry_eq]
  exact body p e s m below meth c _ s.heap rfl B.exec B.bytes B.returns hml hown hts B.notSynchronized hP hK hN hX hXs hl
theorem sh_0 (x : Int32) : x >>> ((0 : Int32) &&& 31) = x := by
  have h := pk_shr x ((0 : Int32) &&& 31) 0 rfl
  exact Int32.toInt_inj.mp (by rw [h]; simp)
theorem ch_n {v : Int32} (r : Rg 0 65535 v) : narrow .char (.int v) = .int v := by
  obtain ⟨n, rfl, hn, en⟩ := r_nI r
  exact (pk_charN (by have := r.2; omega)).1
theorem slen_lt : ∀ i, i < 7 → slen.getD i 0 < 2 ^ 31 := by decide
theorem in_nI {a : Int32} {n : Nat} (h : vp_in a n) (hn : n < 2 ^ 31) : a < Int32.ofNat n := by
  rw [vp_in_iff] at h
  rw [i_lt]
  have h2 := nI_toInt hn
  have h3 : Int32.ofNat n = nI n := rfl
  rw [h3, h2]
  exact h.2
theorem in_r {a : Int32} {n : Nat} (h : vp_in a n) : Rg 0 2147483647 a := by
  rw [vp_in_iff] at h
  exact ⟨h.1, (Rg.top a).2⟩
