theorem dJ7_fill_53178_0 : decode cJ7_fill_53178 0 = .ok (.iconst 0, 1) := by decide +kernel
theorem dJ7_fill_53178_1 : decode cJ7_fill_53178 1 = .ok (.istore_n 2, 1) := by decide +kernel
theorem dJ7_fill_53178_2 : decode cJ7_fill_53178 2 = .ok (.aload_n 0, 1) := by decide +kernel
theorem dJ7_fill_53178_3 : decode cJ7_fill_53178 3 = .ok (.arraylength, 1) := by decide +kernel
theorem dJ7_fill_53178_4 : decode cJ7_fill_53178 4 = .ok (.istore_n 3, 1) := by decide +kernel
theorem dJ7_fill_53178_5 : decode cJ7_fill_53178 5 = .ok (.iload_n 2, 1) := by decide +kernel
theorem dJ7_fill_53178_6 : decode cJ7_fill_53178 6 = .ok (.iload_n 3, 1) := by decide +kernel
theorem dJ7_fill_53178_7 : decode cJ7_fill_53178 7 = .ok (.if_icmp .ge 13, 3) := by decide +kernel
theorem dJ7_fill_53178_10 : decode cJ7_fill_53178 10 = .ok (.aload_n 0, 1) := by decide +kernel
theorem dJ7_fill_53178_11 : decode cJ7_fill_53178 11 = .ok (.iload_n 2, 1) := by decide +kernel
theorem dJ7_fill_53178_12 : decode cJ7_fill_53178 12 = .ok (.iload_n 1, 1) := by decide +kernel
theorem dJ7_fill_53178_13 : decode cJ7_fill_53178 13 = .ok (.iastore, 1) := by decide +kernel
theorem dJ7_fill_53178_14 : decode cJ7_fill_53178 14 = .ok (.iinc 2 1, 3) := by decide +kernel
theorem dJ7_fill_53178_17 : decode cJ7_fill_53178 17 = .ok (.goto (-12), 3) := by decide +kernel
theorem dJ7_fill_53178_20 : decode cJ7_fill_53178 20 = .ok (.return_, 1) := by decide +kernel
set_option maxHeartbeats 4000000 in
set_option maxRecDepth 100000 in
theorem c_fill (l : Launch) (D : va_G) (cs : Nat → ClassId) (X : XX) (sz : Nat) (ra n : Nat) (f : Nat → Int32) (v : Int32) (hn : n < 2147483648) : Met l yJ7_fill_53178 (Cond.code yJ7_fill_53178 cJ7_fill_53178 4 none :: TB) (RM 0 0 0) (va_Pc [.ref ra, .int v] (PRE D cs X [(ra, .inl (cs 0, n, .inl f))] [] sz)) (va_Qv (S := Unit) (fun _ => True) (fun _ t => ∃ g2 : Nat → Int32, (∀ j, g2 j = v) ∧ va_P D vwCl [(ra, .inl (cs 0, n, .inl g2))] t.heap ∧ va_D (va_A [(ra, .inl (cs 0, n, .inl f))] sz) [(ra, .inl (cs 0, n, .inl g2))]) (va_A [(ra, .inl (cs 0, n, .inl f))] sz)) 0 0 (va_A [(ra, .inl (cs 0, n, .inl f))] sz) := by
  refine MET (y := yJ7_fill_53178) (cc := cJ7_fill_53178) (maxL := 4) (ret := none) (d := 0) (mc := 0) (ms := 0) (D := D) (cs := cs) (X := X) (ws := [(ra, .inl (cs 0, n, .inl f))]) (wo := []) (sz := sz) (av := [.ref ra, .int v]) (Qc := fun A => va_Qv (S := Unit) (fun _ => True) (fun _ t => ∃ g2 : Nat → Int32, (∀ j, g2 j = v) ∧ va_P D vwCl [(ra, .inl (cs 0, n, .inl g2))] t.heap ∧ va_D A [(ra, .inl (cs 0, n, .inl g2))]) A) (by decide) (Nat.le_of_ble_eq_true rfl) ?_
  intro p e s m below meth c ls A H hHe hx hb hr hml hown hts hlocks hnm hP hK hD hA hS hN hR hX hXs hl
  have hl : lv_has ls 4 [(0, .ref ra), (1, .int v)] := hl
  refine lv_iconst (v := 0) hx hb dJ7_fill_53178_0 (by decide) ?_
  refine lv_istore_n (lv' := [(2, .int 0), (0, .ref ra), (1, .int v)]) hx hb dJ7_fill_53178_1 rfl hl (by decide) rfl (fun ls hl => ?_)
  refine lv_aload_n hx hb dJ7_fill_53178_2 rfl (lv_at hl 1 rfl) ?_
  refine va_alen (v := nI n) hx hb hK hP 0 0 rfl rfl rfl dJ7_fill_53178_3 ?_
  refine lv_istore_n (lv' := [(3, .int (nI n)), (2, .int 0), (0, .ref ra), (1, .int v)]) hx hb dJ7_fill_53178_4 rfl hl (by decide) rfl (fun ls hl => ?_)
  refine w_wh (σ := Nat × (Nat → Int32)) (fun x9 H locs ls => match x9 with | (i, g) => i ≤ n ∧ (∀ j, j < i → g j = v) ∧ va_P D vwCl [(ra, .inl (cs 0, n, .inl g))] H ∧ va_D A [(ra, .inl (cs 0, n, .inl g))] ∧ va_S A s.heap H locs ∧ lv_has ls 4 [(2, .int (nI i)), (3, .int (nI n)), (0, .ref ra), (1, .int v)]) (fun x9 => match x9 with | (i, g) => n - i) 5 ?_ (0, f) H [] ls ⟨Nat.zero_le _, fun j hj => absurd hj (Nat.not_lt_zero j), hP, hD, hS, lv_sub hl [1, 0, 2, 3] rfl⟩
  rintro ⟨i, g⟩ H locs ls ⟨hi, hg, hP, hD, hS, hl⟩ ih
  refine lv_iload_n hx hb dJ7_fill_53178_5 rfl (lv_at hl 0 rfl) ?_
  refine lv_iload_n hx hb dJ7_fill_53178_6 rfl (lv_at hl 1 rfl) ?_
  refine lv_icmp_ge (tgt := 20) hx hb dJ7_fill_53178_7 (by decide) (fun c1 => ?_) (fun c1 => ?_)
  · have hin : i = n := by
      rcases Nat.lt_or_ge i n with q | q
      · exact absurd c1 (nI_ge q hn)
      · omega
    subst hin
    have hP9 := ar_P hP 0 rfl (g := fun _ => v) (fun j hj => hg j hj)
    have hD9 : va_D A [(ra, .inl (cs 0, i, .inl (fun _ => v)))] := hD.set (p := 0) rfl
    exact W.vret hx hb hr (fun t9 ht9 hW9 => ⟨⟨(), rfl, trivial, fun _ => v, fun _ => rfl, by rw [ht9]; exact hP9, hD9⟩, hS.F ht9⟩) hS.2.2 dJ7_fill_53178_20
  · have hlt : i < n := by
      rcases Nat.lt_or_ge i n with q | q
      · exact q
      · exact absurd (nI_le q (by omega)) c1
    refine lv_aload_n hx hb dJ7_fill_53178_10 rfl (lv_at hl 2 rfl) ?_
    refine lv_iload_n hx hb dJ7_fill_53178_11 rfl (lv_at hl 0 rfl) ?_
    refine lv_iload_n hx hb dJ7_fill_53178_12 rfl (lv_at hl 3 rfl) ?_
    refine va_iast hx hb hK hP hD hS 0 0 rfl rfl (vp_in_nI hlt (by omega)) dJ7_fill_53178_13 (fun H locs hP hD hS => ?_)
    refine lv_iinc (v := nI (i + 1)) (lv' := [(2, .int (nI (i + 1))), (3, .int (nI n)), (0, .ref ra), (1, .int v)]) hx hb dJ7_fill_53178_14 hl (k := 0) rfl (by rw [nI_succ]; rfl) (by decide) rfl (fun ls hl => ?_)
    refine lv_goto (tgt := 5) hx hb dJ7_fill_53178_17 (by decide) ?_
    refine ih (i + 1, upd g (Int32.toNatClampNeg (nI i)) v) _ _ _ ⟨hlt, fun j hj => ?_, hP, hD, hS, hl⟩ (by show n - (i + 1) < n - i; omega)
    rw [nI_clamp (by omega)]
    unfold upd
    by_cases q : j = i
    · rw [if_pos q]
    · rw [if_neg q]; exact hg j (by omega)
theorem dX2_init_0 : decode cX2_init 0 = .ok (.aload_n 0, 1) := by decide +kernel
theorem dX2_init_1 : decode cX2_init 1 = .ok (.invokespecial 1, 3) := by decide +kernel
theorem qq_2_27 : Cond.methodLink "WrongHole$Lift" 1 (⟨"java/lang/Object", "<init>", "()V"⟩ : MethodName) ∈ TB := mk_tb (ti_2 (List.mem_of_getElem? (i := 27) rfl)) rfl
theorem qq_1_28 : Cond.instanceMethod (⟨"java/lang/Object", "<init>", "()V"⟩ : MethodName) ∈ TB := mk_tb (ti_1 (List.mem_of_getElem? (i := 28) rfl)) rfl
theorem qq_1_29 : Cond.code ({ cls := "java/lang/Object", name := "<init>", desc := "()V" } : Jvm.MethodName) object_method_1_code (1 : Nat) (Option.none : Option Jvm.ClassFile.FieldType) ∈ TB := mk_tb (ti_1 (List.mem_of_getElem? (i := 29) rfl)) rfl
theorem dX2_init_4 : decode cX2_init 4 = .ok (.aload_n 0, 1) := by decide +kernel
theorem dX2_init_5 : decode cX2_init 5 = .ok (.bipush 8, 2) := by decide +kernel
theorem dX2_init_7 : decode cX2_init 7 = .ok (.newarray .int, 2) := by decide +kernel
theorem qq_1_86 : Cond.arrayClass Jvm.ClassFile.FieldType.int ∈ TB := mk_tb (ti_1 (List.mem_of_getElem? (i := 86) rfl)) rfl
theorem dX2_init_9 : decode cX2_init 9 = .ok (.putfield 7, 3) := by decide +kernel
theorem dX2_init_12 : decode cX2_init 12 = .ok (.aload_n 0, 1) := by decide +kernel
theorem dX2_init_13 : decode cX2_init 13 = .ok (.bipush 8, 2) := by decide +kernel
theorem dX2_init_15 : decode cX2_init 15 = .ok (.newarray .int, 2) := by decide +kernel
theorem dX2_init_17 : decode cX2_init 17 = .ok (.putfield 13, 3) := by decide +kernel
theorem dX2_init_20 : decode cX2_init 20 = .ok (.aload_n 0, 1) := by decide +kernel
theorem dX2_init_21 : decode cX2_init 21 = .ok (.bipush 8, 2) := by decide +kernel
theorem dX2_init_23 : decode cX2_init 23 = .ok (.newarray .int, 2) := by decide +kernel
theorem dX2_init_25 : decode cX2_init 25 = .ok (.putfield 16, 3) := by decide +kernel
theorem dX2_init_28 : decode cX2_init 28 = .ok (.aload_n 0, 1) := by decide +kernel
theorem dX2_init_29 : decode cX2_init 29 = .ok (.bipush 8, 2) := by decide +kernel
theorem dX2_init_31 : decode cX2_init 31 = .ok (.newarray .int, 2) := by decide +kernel
theorem dX2_init_33 : decode cX2_init 33 = .ok (.putfield 19, 3) := by decide +kernel
theorem dX2_init_36 : decode cX2_init 36 = .ok (.aload_n 0, 1) := by decide +kernel
theorem dX2_init_37 : decode cX2_init 37 = .ok (.bipush 8, 2) := by decide +kernel
theorem dX2_init_39 : decode cX2_init 39 = .ok (.newarray .int, 2) := by decide +kernel
theorem dX2_init_41 : decode cX2_init 41 = .ok (.putfield 22, 3) := by decide +kernel
theorem dX2_init_44 : decode cX2_init 44 = .ok (.aload_n 0, 1) := by decide +kernel
theorem dX2_init_45 : decode cX2_init 45 = .ok (.bipush 8, 2) := by decide +kernel
theorem dX2_init_47 : decode cX2_init 47 = .ok (.newarray .int, 2) := by decide +kernel
theorem dX2_init_49 : decode cX2_init 49 = .ok (.putfield 25, 3) := by decide +kernel
theorem qq_2_79 : Cond.fieldLink "WrongHole$Lift" 25 "WrongHole$Lift" "fitting" "[I" ∈ TB := mk_tb (ti_2 (List.mem_of_getElem? (i := 79) rfl)) rfl
theorem dX2_init_52 : decode cX2_init 52 = .ok (.aload_n 0, 1) := by decide +kernel
theorem dX2_init_53 : decode cX2_init 53 = .ok (.bipush 6, 2) := by decide +kernel
theorem dX2_init_55 : decode cX2_init 55 = .ok (.newarray .int, 2) := by decide +kernel
theorem dX2_init_57 : decode cX2_init 57 = .ok (.putfield 28, 3) := by decide +kernel
theorem dX2_init_60 : decode cX2_init 60 = .ok (.aload_n 0, 1) := by decide +kernel
theorem dX2_init_61 : decode cX2_init 61 = .ok (.bipush 6, 2) := by decide +kernel
theorem dX2_init_63 : decode cX2_init 63 = .ok (.newarray .int, 2) := by decide +kernel
theorem dX2_init_65 : decode cX2_init 65 = .ok (.putfield 31, 3) := by decide +kernel
theorem dX2_init_68 : decode cX2_init 68 = .ok (.aload_n 0, 1) := by decide +kernel
theorem dX2_init_69 : decode cX2_init 69 = .ok (.getfield 16, 3) := by decide +kernel
theorem dX2_init_72 : decode cX2_init 72 = .ok (.iconst 1, 1) := by decide +kernel
theorem dX2_init_73 : decode cX2_init 73 = .ok (.invokestatic 34, 3) := by decide +kernel
theorem qq_1_97 : Cond.code yJ7_fill_53178 cJ7_fill_53178 4 none ∈ TB := mk_tb (ti_1 (List.mem_of_getElem? (i := 97) rfl)) rfl
theorem qq_1_5 : Cond.initialized "java/util/Arrays" ∈ TB := mk_tb (ti_1 (List.mem_of_getElem? (i := 5) rfl)) rfl
theorem qq_2_28 : Cond.methodLink "WrongHole$Lift" 34 yJ7_fill_53178 ∈ TB := mk_tb (ti_2 (List.mem_of_getElem? (i := 28) rfl)) rfl
theorem qq_1_96 : Cond.static yJ7_fill_53178 ∈ TB := mk_tb (ti_1 (List.mem_of_getElem? (i := 96) rfl)) rfl
theorem dX2_init_76 : decode cX2_init 76 = .ok (.aload_n 0, 1) := by decide +kernel
theorem dX2_init_77 : decode cX2_init 77 = .ok (.getfield 19, 3) := by decide +kernel
theorem dX2_init_80 : decode cX2_init 80 = .ok (.iconst 2, 1) := by decide +kernel
theorem dX2_init_81 : decode cX2_init 81 = .ok (.invokestatic 34, 3) := by decide +kernel
theorem dX2_init_84 : decode cX2_init 84 = .ok (.aload_n 0, 1) := by decide +kernel
theorem dX2_init_85 : decode cX2_init 85 = .ok (.getfield 22, 3) := by decide +kernel
theorem dX2_init_88 : decode cX2_init 88 = .ok (.iconst 1, 1) := by decide +kernel
theorem dX2_init_89 : decode cX2_init 89 = .ok (.invokestatic 34, 3) := by decide +kernel
theorem dX2_init_92 : decode cX2_init 92 = .ok (.return_, 1) := by decide +kernel
set_option maxHeartbeats 4000000 in
set_option maxRecDepth 100000 in
theorem c_Lift_init (l : Launch) (D : va_G) (cs : Nat → ClassId) (X : XX) (sz : Nat) (hl0 : Nat)  : Met l yX2_init (Cond.code yX2_init cX2_init 1 none :: TB) (RM 1 8 60) (va_Pc [.ref hl0] (PRE D cs X [(hl0, .inr (2, [.int 0, .int 0, .int 0, .int 0, .int 0, .int 0, .int 0, .int 0, .int 0, .int 0, .int 0, .null, .null, .null, .null, .null, .null, .null, .null]))] [] sz)) (va_Qv (S := Unit) (fun _ => True) (fun _ t => ∃ (l0 : Nat), ∃ (l1 : Nat), ∃ (l2 : Nat), ∃ (l3 : Nat), ∃ (l4 : Nat), ∃ (l5 : Nat), ∃ (l6 : Nat), ∃ (l7 : Nat), ∃ (f0 : Nat → Int32), ∃ (f1 : Nat → Int32), ∃ (f2 : Nat → Int32), ∃ (f3 : Nat → Int32), ∃ (f4 : Nat → Int32), ∃ (f5 : Nat → Int32), ∃ (f6 : Nat → Int32), ∃ (f7 : Nat → Int32), va_P D vwCl [(hl0, .inr (2, [.int 0, .int 0, .int 0, .int 0, .int 0, .int 0, .int 0, .int 0, .int 0, .int 0, .int 0, .ref l0, .ref l1, .ref l2, .ref l3, .ref l4, .ref l5, .ref l6, .ref l7])), (l0, .inl ((cs 0), 8, .inl f0)), (l1, .inl ((cs 0), 8, .inl f1)), (l2, .inl ((cs 0), 8, .inl f2)), (l3, .inl ((cs 0), 8, .inl f3)), (l4, .inl ((cs 0), 8, .inl f4)), (l5, .inl ((cs 0), 8, .inl f5)), (l6, .inl ((cs 0), 6, .inl f6)), (l7, .inl ((cs 0), 6, .inl f7))] t.heap ∧ va_D (va_A [(hl0, .inr (2, [.int 0, .int 0, .int 0, .int 0, .int 0, .int 0, .int 0, .int 0, .int 0, .int 0, .int 0, .null, .null, .null, .null, .null, .null, .null, .null]))] sz) [(hl0, .inr (2, [.int 0, .int 0, .int 0, .int 0, .int 0, .int 0, .int 0, .int 0, .int 0, .int 0, .int 0, .ref l0, .ref l1, .ref l2, .ref l3, .ref l4, .ref l5, .ref l6, .ref l7])), (l0, .inl ((cs 0), 8, .inl f0)), (l1, .inl ((cs 0), 8, .inl f1)), (l2, .inl ((cs 0), 8, .inl f2)), (l3, .inl ((cs 0), 8, .inl f3)), (l4, .inl ((cs 0), 8, .inl f4)), (l5, .inl ((cs 0), 8, .inl f5)), (l6, .inl ((cs 0), 6, .inl f6)), (l7, .inl ((cs 0), 6, .inl f7))]) (va_A [(hl0, .inr (2, [.int 0, .int 0, .int 0, .int 0, .int 0, .int 0, .int 0, .int 0, .int 0, .int 0, .int 0, .null, .null, .null, .null, .null, .null, .null, .null]))] sz)) 8 60 (va_A [(hl0, .inr (2, [.int 0, .int 0, .int 0, .int 0, .int 0, .int 0, .int 0, .int 0, .int 0, .int 0, .int 0, .null, .null, .null, .null, .null, .null, .null, .null]))] sz) := by
  refine MET (y := yX2_init) (cc := cX2_init) (maxL := 1) (ret := none) (d := 1) (mc := 8) (ms := 60) (D := D) (cs := cs) (X := X) (ws := [(hl0, .inr (2, [.int 0, .int 0, .int 0, .int 0, .int 0, .int 0, .int 0, .int 0, .int 0, .int 0, .int 0, .null, .null, .null, .null, .null, .null, .null, .null]))]) (wo := []) (sz := sz) (av := [.ref hl0]) (Qc := fun A => va_Qv (S := Unit) (fun _ => True) (fun _ t => ∃ (l0 : Nat), ∃ (l1 : Nat), ∃ (l2 : Nat), ∃ (l3 : Nat), ∃ (l4 : Nat), ∃ (l5 : Nat), ∃ (l6 : Nat), ∃ (l7 : Nat), ∃ (f0 : Nat → Int32), ∃ (f1 : Nat → Int32), ∃ (f2 : Nat → Int32), ∃ (f3 : Nat → Int32), ∃ (f4 : Nat → Int32), ∃ (f5 : Nat → Int32), ∃ (f6 : Nat → Int32), ∃ (f7 : Nat → Int32), va_P D vwCl [(hl0, .inr (2, [.int 0, .int 0, .int 0, .int 0, .int 0, .int 0, .int 0, .int 0, .int 0, .int 0, .int 0, .ref l0, .ref l1, .ref l2, .ref l3, .ref l4, .ref l5, .ref l6, .ref l7])), (l0, .inl ((cs 0), 8, .inl f0)), (l1, .inl ((cs 0), 8, .inl f1)), (l2, .inl ((cs 0), 8, .inl f2)), (l3, .inl ((cs 0), 8, .inl f3)), (l4, .inl ((cs 0), 8, .inl f4)), (l5, .inl ((cs 0), 8, .inl f5)), (l6, .inl ((cs 0), 6, .inl f6)), (l7, .inl ((cs 0), 6, .inl f7))] t.heap ∧ va_D A [(hl0, .inr (2, [.int 0, .int 0, .int 0, .int 0, .int 0, .int 0, .int 0, .int 0, .int 0, .int 0, .int 0, .ref l0, .ref l1, .ref l2, .ref l3, .ref l4, .ref l5, .ref l6, .ref l7])), (l0, .inl ((cs 0), 8, .inl f0)), (l1, .inl ((cs 0), 8, .inl f1)), (l2, .inl ((cs 0), 8, .inl f2)), (l3, .inl ((cs 0), 8, .inl f3)), (l4, .inl ((cs 0), 8, .inl f4)), (l5, .inl ((cs 0), 8, .inl f5)), (l6, .inl ((cs 0), 6, .inl f6)), (l7, .inl ((cs 0), 6, .inl f7))]) A) (by decide) (Nat.le_of_ble_eq_true rfl) ?_
  intro p e s m below meth c ls A H hHe hx hb hr hml hown hts hlocks hnm hP hK hD hA hS hN hR hX hXs hl
  have hD : va_D A [(hl0, .inr (2, [.int 0, .int 0, .int 0, .int 0, .int 0, .int 0, .int 0, .int 0, .int 0, .int 0, .int 0, .null, .null, .null, .null, .null, .null, .null, .null]))] := hD
  obtain ⟨locs, hlc⟩ : ∃ z : List Loc, z = [] := ⟨_, rfl⟩
  rw [← hlc] at hS ⊢
  have hown : s.vm.findClass "WrongHole$Lift" = some m.cls := hown
  have hT : ∀ w ∈ TB, w.before ([.ref hl0] : List Value).toArray s = true := fun w h => hts w (List.mem_cons_of_mem _ h)
  have hl : lv_has ls 1 [(0, .ref hl0)] := hl
  have hP : va_P D vwCl [(hl0, .inr (2, [.int 0, .int 0, .int 0, .int 0, .int 0, .int 0, .int 0, .int 0, .int 0, .int 0, .int 0, .null, .null, .null, .null, .null, .null, .null, .null]))] H := hP
  refine lv_aload_n hx hb dX2_init_0 rfl (lv_at hl 0 rfl) ?_
  refine W.objInit hx hb hown (hT _ qq_2_27) (hT _ qq_1_28) (hT _ qq_1_29) rfl (by rw [hml]; exact hl.1) rfl dX2_init_1 (Nat.le_of_ble_eq_true rfl) (Nat.le_of_ble_eq_true rfl) ?_
  refine W.eq (g2 := F0 m 4 ls []) rfl ?_
  refine lv_aload_n hx hb dX2_init_4 rfl (lv_at hl 0 rfl) ?_
  refine lv_bipush (v := 8) hx hb dX2_init_5 (by decide) ?_
  refine va_newa (atype := .int) hx hb (hT _ qq_1_86) rfl hK hP hD hS hA (a0 := (8, .inl (fun _ => 0))) (fun _ => rfl) (by decide) (by decide) (Nat.le_of_ble_eq_true rfl) (Nat.le_of_ble_eq_true rfl) (Nat.le_of_ble_eq_true rfl) dX2_init_7 (fun q_1 k_2 H hK9 hP hD hS => ?_)
  obtain rfl := ka_eq 0 rfl (fun _ => rfl) hK9
  obtain ⟨g_3, ra_4, hP, hD⟩ : ∃ g_3 : Nat → Int32, (∀ j, j < 8 → Rg 0 0 (g_3 j)) ∧ va_P D vwCl [(hl0, .inr (2, [.int 0, .int 0, .int 0, .int 0, .int 0, .int 0, .int 0, .int 0, .int 0, .int 0, .int 0, .null, .null, .null, .null, .null, .null, .null, .null])), (q_1, .inl ((cs 0), 8, .inl g_3))] H ∧ va_D A [(hl0, .inr (2, [.int 0, .int 0, .int 0, .int 0, .int 0, .int 0, .int 0, .int 0, .int 0, .int 0, .int 0, .null, .null, .null, .null, .null, .null, .null, .null])), (q_1, .inl ((cs 0), 8, .inl g_3))] := ⟨_, fun _ _ => Rg.c rfl, hP, hD⟩
  refine W.widen (k := 1) (n := 8) (Nat.le_of_ble_eq_true rfl) (Nat.le_of_ble_eq_true rfl) ?_
  refine va_putF (D := D) (ci := 2) (v := .ref q_1) (ty := .array .int) (C := "WrongHole$Lift") (T := TX2) (N := 19) hx hb hts (iq_RX2 _) tyX2 tyX2_ok nmX2 hown hK hP hD hS 0 rfl rfl 11 (by decide) (hT _ qq_2_64) (fun _ h9 => h9) rfl hnm rfl (by decide +kernel) rfl rfl (Nat.le_of_ble_eq_true rfl) dX2_init_9 (fun H locs hP hD hS => ?_)
  have hP : va_P D vwCl [(hl0, .inr (2, [.int 0, .int 0, .int 0, .int 0, .int 0, .int 0, .int 0, .int 0, .int 0, .int 0, .int 0, .ref q_1, .null, .null, .null, .null, .null, .null, .null])), (q_1, .inl ((cs 0), 8, .inl g_3))] H := hP
  have hD : va_D A [(hl0, .inr (2, [.int 0, .int 0, .int 0, .int 0, .int 0, .int 0, .int 0, .int 0, .int 0, .int 0, .int 0, .ref q_1, .null, .null, .null, .null, .null, .null, .null])), (q_1, .inl ((cs 0), 8, .inl g_3))] := hD
  refine lv_aload_n hx hb dX2_init_12 rfl (lv_at hl 0 rfl) ?_
  refine lv_bipush (v := 8) hx hb dX2_init_13 (by decide) ?_
  refine va_newa (atype := .int) hx hb (hT _ qq_1_86) rfl hK hP hD hS hA (a0 := (8, .inl (fun _ => 0))) (fun _ => rfl) (by decide) (by decide) (Nat.le_of_ble_eq_true rfl) (Nat.le_of_ble_eq_true rfl) (Nat.le_of_ble_eq_true rfl) dX2_init_15 (fun q_5 k_6 H hK9 hP hD hS => ?_)
  obtain rfl := ka_eq 0 rfl (fun _ => rfl) hK9
  obtain ⟨g_7, ra_8, hP, hD⟩ : ∃ g_7 : Nat → Int32, (∀ j, j < 8 → Rg 0 0 (g_7 j)) ∧ va_P D vwCl [(hl0, .inr (2, [.int 0, .int 0, .int 0, .int 0, .int 0, .int 0, .int 0, .int 0, .int 0, .int 0, .int 0, .ref q_1, .null, .null, .null, .null, .null, .null, .null])), (q_1, .inl ((cs 0), 8, .inl g_3)), (q_5, .inl ((cs 0), 8, .inl g_7))] H ∧ va_D A [(hl0, .inr (2, [.int 0, .int 0, .int 0, .int 0, .int 0, .int 0, .int 0, .int 0, .int 0, .int 0, .int 0, .ref q_1, .null, .null, .null, .null, .null, .null, .null])), (q_1, .inl ((cs 0), 8, .inl g_3)), (q_5, .inl ((cs 0), 8, .inl g_7))] := ⟨_, fun _ _ => Rg.c rfl, hP, hD⟩
  refine W.widen (k := 2) (n := 16) (Nat.le_of_ble_eq_true rfl) (Nat.le_of_ble_eq_true rfl) ?_
  refine va_putF (D := D) (ci := 2) (v := .ref q_5) (ty := .array .int) (C := "WrongHole$Lift") (T := TX2) (N := 19) hx hb hts (iq_RX2 _) tyX2 tyX2_ok nmX2 hown hK hP hD hS 0 rfl rfl 12 (by decide) (hT _ qq_2_68) (fun _ h9 => h9) rfl hnm rfl (by decide +kernel) rfl rfl (Nat.le_of_ble_eq_true rfl) dX2_init_17 (fun H locs hP hD hS => ?_)
  have hP : va_P D vwCl [(hl0, .inr (2, [.int 0, .int 0, .int 0, .int 0, .int 0, .int 0, .int 0, .int 0, .int 0, .int 0, .int 0, .ref q_1, .ref q_5, .null, .null, .null, .null, .null, .null])), (q_1, .inl ((cs 0), 8, .inl g_3)), (q_5, .inl ((cs 0), 8, .inl g_7))] H := hP
  have hD : va_D A [(hl0, .inr (2, [.int 0, .int 0, .int 0, .int 0, .int 0, .int 0, .int 0, .int 0, .int 0, .int 0, .int 0, .ref q_1, .ref q_5, .null, .null, .null, .null, .null, .null])), (q_1, .inl ((cs 0), 8, .inl g_3)), (q_5, .inl ((cs 0), 8, .inl g_7))] := hD
  refine lv_aload_n hx hb dX2_init_20 rfl (lv_at hl 0 rfl) ?_
  refine lv_bipush (v := 8) hx hb dX2_init_21 (by decide) ?_
  refine va_newa (atype := .int) hx hb (hT _ qq_1_86) rfl hK hP hD hS hA (a0 := (8, .inl (fun _ => 0))) (fun _ => rfl) (by decide) (by decide) (Nat.le_of_ble_eq_true rfl) (Nat.le_of_ble_eq_true rfl) (Nat.le_of_ble_eq_true rfl) dX2_init_23 (fun q_9 k_10 H hK9 hP hD hS => ?_)
  obtain rfl := ka_eq 0 rfl (fun _ => rfl) hK9
  obtain ⟨g_11, ra_12, hP, hD⟩ : ∃ g_11 : Nat → Int32, (∀ j, j < 8 → Rg 0 0 (g_11 j)) ∧ va_P D vwCl [(hl0, .inr (2, [.int 0, .int 0, .int 0, .int 0, .int 0, .int 0, .int 0, .int 0, .int 0, .int 0, .int 0, .ref q_1, .ref q_5, .null, .null, .null, .null, .null, .null])), (q_1, .inl ((cs 0), 8, .inl g_3)), (q_5, .inl ((cs 0), 8, .inl g_7)), (q_9, .inl ((cs 0), 8, .inl g_11))] H ∧ va_D A [(hl0, .inr (2, [.int 0, .int 0, .int 0, .int 0, .int 0, .int 0, .int 0, .int 0, .int 0, .int 0, .int 0, .ref q_1, .ref q_5, .null, .null, .null, .null, .null, .null])), (q_1, .inl ((cs 0), 8, .inl g_3)), (q_5, .inl ((cs 0), 8, .inl g_7)), (q_9, .inl ((cs 0), 8, .inl g_11))] := ⟨_, fun _ _ => Rg.c rfl, hP, hD⟩
  refine W.widen (k := 3) (n := 24) (Nat.le_of_ble_eq_true rfl) (Nat.le_of_ble_eq_true rfl) ?_
  refine va_putF (D := D) (ci := 2) (v := .ref q_9) (ty := .array .int) (C := "WrongHole$Lift") (T := TX2) (N := 19) hx hb hts (iq_RX2 _) tyX2 tyX2_ok nmX2 hown hK hP hD hS 0 rfl rfl 13 (by decide) (hT _ qq_2_72) (fun _ h9 => h9) rfl hnm rfl (by decide +kernel) rfl rfl (Nat.le_of_ble_eq_true rfl) dX2_init_25 (fun H locs hP hD hS => ?_)
  have hP : va_P D vwCl [(hl0, .inr (2, [.int 0, .int 0, .int 0, .int 0, .int 0, .int 0, .int 0, .int 0, .int 0, .int 0, .int 0, .ref q_1, .ref q_5, .ref q_9, .null, .null, .null, .null, .null])), (q_1, .inl ((cs 0), 8, .inl g_3)), (q_5, .inl ((cs 0), 8, .inl g_7)), (q_9, .inl ((cs 0), 8, .inl g_11))] H := hP
  have hD : va_D A [(hl0, .inr (2, [.int 0, .int 0, .int 0, .int 0, .int 0, .int 0, .int 0, .int 0, .int 0, .int 0, .int 0, .ref q_1, .ref q_5, .ref q_9, .null, .null, .null, .null, .null])), (q_1, .inl ((cs 0), 8, .inl g_3)), (q_5, .inl ((cs 0), 8, .inl g_7)), (q_9, .inl ((cs 0), 8, .inl g_11))] := hD
  refine lv_aload_n hx hb dX2_init_28 rfl (lv_at hl 0 rfl) ?_
  refine lv_bipush (v := 8) hx hb dX2_init_29 (by decide) ?_
  refine va_newa (atype := .int) hx hb (hT _ qq_1_86) rfl hK hP hD hS hA (a0 := (8, .inl (fun _ => 0))) (fun _ => rfl) (by decide) (by decide) (Nat.le_of_ble_eq_true rfl) (Nat.le_of_ble_eq_true rfl) (Nat.le_of_ble_eq_true rfl) dX2_init_31 (fun q_13 k_14 H hK9 hP hD hS => ?_)
  obtain rfl := ka_eq 0 rfl (fun _ => rfl) hK9
  obtain ⟨g_15, ra_16, hP, hD⟩ : ∃ g_15 : Nat → Int32, (∀ j, j < 8 → Rg 0 0 (g_15 j)) ∧ va_P D vwCl [(hl0, .inr (2, [.int 0, .int 0, .int 0, .int 0, .int 0, .int 0, .int 0, .int 0, .int 0, .int 0, .int 0, .ref q_1, .ref q_5, .ref q_9, .null, .null, .null, .null, .null])), (q_1, .inl ((cs 0), 8, .inl g_3)), (q_5, .inl ((cs 0), 8, .inl g_7)), (q_9, .inl ((cs 0), 8, .inl g_11)), (q_13, .inl ((cs 0), 8, .inl g_15))] H ∧ va_D A [(hl0, .inr (2, [.int 0, .int 0, .int 0, .int 0, .int 0, .int 0, .int 0, .int 0, .int 0, .int 0, .int 0, .ref q_1, .ref q_5, .ref q_9, .null, .null, .null, .null, .null])), (q_1, .inl ((cs 0), 8, .inl g_3)), (q_5, .inl ((cs 0), 8, .inl g_7)), (q_9, .inl ((cs 0), 8, .inl g_11)), (q_13, .inl ((cs 0), 8, .inl g_15))] := ⟨_, fun _ _ => Rg.c rfl, hP, hD⟩
  refine W.widen (k := 4) (n := 32) (Nat.le_of_ble_eq_true rfl) (Nat.le_of_ble_eq_true rfl) ?_
  refine va_putF (D := D) (ci := 2) (v := .ref q_13) (ty := .array .int) (C := "WrongHole$Lift") (T := TX2) (N := 19) hx hb hts (iq_RX2 _) tyX2 tyX2_ok nmX2 hown hK hP hD hS 0 rfl rfl 14 (by decide) (hT _ qq_2_74) (fun _ h9 => h9) rfl hnm rfl (by decide +kernel) rfl rfl (Nat.le_of_ble_eq_true rfl) dX2_init_33 (fun H locs hP hD hS => ?_)
  have hP : va_P D vwCl [(hl0, .inr (2, [.int 0, .int 0, .int 0, .int 0, .int 0, .int 0, .int 0, .int 0, .int 0, .int 0, .int 0, .ref q_1, .ref q_5, .ref q_9, .ref q_13, .null, .null, .null, .null])), (q_1, .inl ((cs 0), 8, .inl g_3)), (q_5, .inl ((cs 0), 8, .inl g_7)), (q_9, .inl ((cs 0), 8, .inl g_11)), (q_13, .inl ((cs 0), 8, .inl g_15))] H := hP
  have hD : va_D A [(hl0, .inr (2, [.int 0, .int 0, .int 0, .int 0, .int 0, .int 0, .int 0, .int 0, .int 0, .int 0, .int 0, .ref q_1, .ref q_5, .ref q_9, .ref q_13, .null, .null, .null, .null])), (q_1, .inl ((cs 0), 8, .inl g_3)), (q_5, .inl ((cs 0), 8, .inl g_7)), (q_9, .inl ((cs 0), 8, .inl g_11)), (q_13, .inl ((cs 0), 8, .inl g_15))] := hD
  refine lv_aload_n hx hb dX2_init_36 rfl (lv_at hl 0 rfl) ?_
  refine lv_bipush (v := 8) hx hb dX2_init_37 (by decide) ?_
  refine va_newa (atype := .int) hx hb (hT _ qq_1_86) rfl hK hP hD hS hA (a0 := (8, .inl (fun _ => 0))) (fun _ => rfl) (by decide) (by decide) (Nat.le_of_ble_eq_true rfl) (Nat.le_of_ble_eq_true rfl) (Nat.le_of_ble_eq_true rfl) dX2_init_39 (fun q_17 k_18 H hK9 hP hD hS => ?_)
  obtain rfl := ka_eq 0 rfl (fun _ => rfl) hK9
  obtain ⟨g_19, ra_20, hP, hD⟩ : ∃ g_19 : Nat → Int32, (∀ j, j < 8 → Rg 0 0 (g_19 j)) ∧ va_P D vwCl [(hl0, .inr (2, [.int 0, .int 0, .int 0, .int 0, .int 0, .int 0, .int 0, .int 0, .int 0, .int 0, .int 0, .ref q_1, .ref q_5, .ref q_9, .ref q_13, .null, .null, .null, .null])), (q_1, .inl ((cs 0), 8, .inl g_3)), (q_5, .inl ((cs 0), 8, .inl g_7)), (q_9, .inl ((cs 0), 8, .inl g_11)), (q_13, .inl ((cs 0), 8, .inl g_15)), (q_17, .inl ((cs 0), 8, .inl g_19))] H ∧ va_D A [(hl0, .inr (2, [.int 0, .int 0, .int 0, .int 0, .int 0, .int 0, .int 0, .int 0, .int 0, .int 0, .int 0, .ref q_1, .ref q_5, .ref q_9, .ref q_13, .null, .null, .null, .null])), (q_1, .inl ((cs 0), 8, .inl g_3)), (q_5, .inl ((cs 0), 8, .inl g_7)), (q_9, .inl ((cs 0), 8, .inl g_11)), (q_13, .inl ((cs 0), 8, .inl g_15)), (q_17, .inl ((cs 0), 8, .inl g_19))] := ⟨_, fun _ _ => Rg.c rfl, hP, hD⟩
  refine W.widen (k := 5) (n := 40) (Nat.le_of_ble_eq_true rfl) (Nat.le_of_ble_eq_true rfl) ?_
  refine va_putF (D := D) (ci := 2) (v := .ref q_17) (ty := .array .int) (C := "WrongHole$Lift") (T := TX2) (N := 19) hx hb hts (iq_RX2 _) tyX2 tyX2_ok nmX2 hown hK hP hD hS 0 rfl rfl 15 (by decide) (hT _ qq_2_76) (fun _ h9 => h9) rfl hnm rfl (by decide +kernel) rfl rfl (Nat.le_of_ble_eq_true rfl) dX2_init_41 (fun H locs hP hD hS => ?_)
  have hP : va_P D vwCl [(hl0, .inr (2, [.int 0, .int 0, .int 0, .int 0, .int 0, .int 0, .int 0, .int 0, .int 0, .int 0, .int 0, .ref q_1, .ref q_5, .ref q_9, .ref q_13, .ref q_17, .null, .null, .null])), (q_1, .inl ((cs 0), 8, .inl g_3)), (q_5, .inl ((cs 0), 8, .inl g_7)), (q_9, .inl ((cs 0), 8, .inl g_11)), (q_13, .inl ((cs 0), 8, .inl g_15)), (q_17, .inl ((cs 0), 8, .inl g_19))] H := hP
  have hD : va_D A [(hl0, .inr (2, [.int 0, .int 0, .int 0, .int 0, .int 0, .int 0, .int 0, .int 0, .int 0, .int 0, .int 0, .ref q_1, .ref q_5, .ref q_9, .ref q_13, .ref q_17, .null, .null, .null])), (q_1, .inl ((cs 0), 8, .inl g_3)), (q_5, .inl ((cs 0), 8, .inl g_7)), (q_9, .inl ((cs 0), 8, .inl g_11)), (q_13, .inl ((cs 0), 8, .inl g_15)), (q_17, .inl ((cs 0), 8, .inl g_19))] := hD
  refine lv_aload_n hx hb dX2_init_44 rfl (lv_at hl 0 rfl) ?_
  refine lv_bipush (v := 8) hx hb dX2_init_45 (by decide) ?_
  refine va_newa (atype := .int) hx hb (hT _ qq_1_86) rfl hK hP hD hS hA (a0 := (8, .inl (fun _ => 0))) (fun _ => rfl) (by decide) (by decide) (Nat.le_of_ble_eq_true rfl) (Nat.le_of_ble_eq_true rfl) (Nat.le_of_ble_eq_true rfl) dX2_init_47 (fun q_21 k_22 H hK9 hP hD hS => ?_)
  obtain rfl := ka_eq 0 rfl (fun _ => rfl) hK9
  obtain ⟨g_23, ra_24, hP, hD⟩ : ∃ g_23 : Nat → Int32, (∀ j, j < 8 → Rg 0 0 (g_23 j)) ∧ va_P D vwCl [(hl0, .inr (2, [.int 0, .int 0, .int 0, .int 0, .int 0, .int 0, .int 0, .int 0, .int 0, .int 0, .int 0, .ref q_1, .ref q_5, .ref q_9, .ref q_13, .ref q_17, .null, .null, .null])), (q_1, .inl ((cs 0), 8, .inl g_3)), (q_5, .inl ((cs 0), 8, .inl g_7)), (q_9, .inl ((cs 0), 8, .inl g_11)), (q_13, .inl ((cs 0), 8, .inl g_15)), (q_17, .inl ((cs 0), 8, .inl g_19)), (q_21, .inl ((cs 0), 8, .inl g_23))] H ∧ va_D A [(hl0, .inr (2, [.int 0, .int 0, .int 0, .int 0, .int 0, .int 0, .int 0, .int 0, .int 0, .int 0, .int 0, .ref q_1, .ref q_5, .ref q_9, .ref q_13, .ref q_17, .null, .null, .null])), (q_1, .inl ((cs 0), 8, .inl g_3)), (q_5, .inl ((cs 0), 8, .inl g_7)), (q_9, .inl ((cs 0), 8, .inl g_11)), (q_13, .inl ((cs 0), 8, .inl g_15)), (q_17, .inl ((cs 0), 8, .inl g_19)), (q_21, .inl ((cs 0), 8, .inl g_23))] := ⟨_, fun _ _ => Rg.c rfl, hP, hD⟩
  refine W.widen (k := 6) (n := 48) (Nat.le_of_ble_eq_true rfl) (Nat.le_of_ble_eq_true rfl) ?_
  refine va_putF (D := D) (ci := 2) (v := .ref q_21) (ty := .array .int) (C := "WrongHole$Lift") (T := TX2) (N := 19) hx hb hts (iq_RX2 _) tyX2 tyX2_ok nmX2 hown hK hP hD hS 0 rfl rfl 16 (by decide) (hT _ qq_2_79) (fun _ h9 => h9) rfl hnm rfl (by decide +kernel) rfl rfl (Nat.le_of_ble_eq_true rfl) dX2_init_49 (fun H locs hP hD hS => ?_)
  have hP : va_P D vwCl [(hl0, .inr (2, [.int 0, .int 0, .int 0, .int 0, .int 0, .int 0, .int 0, .int 0, .int 0, .int 0, .int 0, .ref q_1, .ref q_5, .ref q_9, .ref q_13, .ref q_17, .ref q_21, .null, .null])), (q_1, .inl ((cs 0), 8, .inl g_3)), (q_5, .inl ((cs 0), 8, .inl g_7)), (q_9, .inl ((cs 0), 8, .inl g_11)), (q_13, .inl ((cs 0), 8, .inl g_15)), (q_17, .inl ((cs 0), 8, .inl g_19)), (q_21, .inl ((cs 0), 8, .inl g_23))] H := hP
  have hD : va_D A [(hl0, .inr (2, [.int 0, .int 0, .int 0, .int 0, .int 0, .int 0, .int 0, .int 0, .int 0, .int 0, .int 0, .ref q_1, .ref q_5, .ref q_9, .ref q_13, .ref q_17, .ref q_21, .null, .null])), (q_1, .inl ((cs 0), 8, .inl g_3)), (q_5, .inl ((cs 0), 8, .inl g_7)), (q_9, .inl ((cs 0), 8, .inl g_11)), (q_13, .inl ((cs 0), 8, .inl g_15)), (q_17, .inl ((cs 0), 8, .inl g_19)), (q_21, .inl ((cs 0), 8, .inl g_23))] := hD
  refine lv_aload_n hx hb dX2_init_52 rfl (lv_at hl 0 rfl) ?_
  refine lv_bipush (v := 6) hx hb dX2_init_53 (by decide) ?_
  refine va_newa (atype := .int) hx hb (hT _ qq_1_86) rfl hK hP hD hS hA (a0 := (6, .inl (fun _ => 0))) (fun _ => rfl) (by decide) (by decide) (Nat.le_of_ble_eq_true rfl) (Nat.le_of_ble_eq_true rfl) (Nat.le_of_ble_eq_true rfl) dX2_init_55 (fun q_25 k_26 H hK9 hP hD hS => ?_)
  obtain rfl := ka_eq 0 rfl (fun _ => rfl) hK9
  obtain ⟨g_27, ra_28, hP, hD⟩ : ∃ g_27 : Nat → Int32, (∀ j, j < 6 → Rg 0 0 (g_27 j)) ∧ va_P D vwCl [(hl0, .inr (2, [.int 0, .int 0, .int 0, .int 0, .int 0, .int 0, .int 0, .int 0, .int 0, .int 0, .int 0, .ref q_1, .ref q_5, .ref q_9, .ref q_13, .ref q_17, .ref q_21, .null, .null])), (q_1, .inl ((cs 0), 8, .inl g_3)), (q_5, .inl ((cs 0), 8, .inl g_7)), (q_9, .inl ((cs 0), 8, .inl g_11)), (q_13, .inl ((cs 0), 8, .inl g_15)), (q_17, .inl ((cs 0), 8, .inl g_19)), (q_21, .inl ((cs 0), 8, .inl g_23)), (q_25, .inl ((cs 0), 6, .inl g_27))] H ∧ va_D A [(hl0, .inr (2, [.int 0, .int 0, .int 0, .int 0, .int 0, .int 0, .int 0, .int 0, .int 0, .int 0, .int 0, .ref q_1, .ref q_5, .ref q_9, .ref q_13, .ref q_17, .ref q_21, .null, .null])), (q_1, .inl ((cs 0), 8, .inl g_3)), (q_5, .inl ((cs 0), 8, .inl g_7)), (q_9, .inl ((cs 0), 8, .inl g_11)), (q_13, .inl ((cs 0), 8, .inl g_15)), (q_17, .inl ((cs 0), 8, .inl g_19)), (q_21, .inl ((cs 0), 8, .inl g_23)), (q_25, .inl ((cs 0), 6, .inl g_27))] := ⟨_, fun _ _ => Rg.c rfl, hP, hD⟩
  refine W.widen (k := 7) (n := 54) (Nat.le_of_ble_eq_true rfl) (Nat.le_of_ble_eq_true rfl) ?_
  refine va_putF (D := D) (ci := 2) (v := .ref q_25) (ty := .array .int) (C := "WrongHole$Lift") (T := TX2) (N := 19) hx hb hts (iq_RX2 _) tyX2 tyX2_ok nmX2 hown hK hP hD hS 0 rfl rfl 17 (by decide) (hT _ qq_2_81) (fun _ h9 => h9) rfl hnm rfl (by decide +kernel) rfl rfl (Nat.le_of_ble_eq_true rfl) dX2_init_57 (fun H locs hP hD hS => ?_)
  have hP : va_P D vwCl [(hl0, .inr (2, [.int 0, .int 0, .int 0, .int 0, .int 0, .int 0, .int 0, .int 0, .int 0, .int 0, .int 0, .ref q_1, .ref q_5, .ref q_9, .ref q_13, .ref q_17, .ref q_21, .ref q_25, .null])), (q_1, .inl ((cs 0), 8, .inl g_3)), (q_5, .inl ((cs 0), 8, .inl g_7)), (q_9, .inl ((cs 0), 8, .inl g_11)), (q_13, .inl ((cs 0), 8, .inl g_15)), (q_17, .inl ((cs 0), 8, .inl g_19)), (q_21, .inl ((cs 0), 8, .inl g_23)), (q_25, .inl ((cs 0), 6, .inl g_27))] H := hP
  have hD : va_D A [(hl0, .inr (2, [.int 0, .int 0, .int 0, .int 0, .int 0, .int 0, .int 0, .int 0, .int 0, .int 0, .int 0, .ref q_1, .ref q_5, .ref q_9, .ref q_13, .ref q_17, .ref q_21, .ref q_25, .null])), (q_1, .inl ((cs 0), 8, .inl g_3)), (q_5, .inl ((cs 0), 8, .inl g_7)), (q_9, .inl ((cs 0), 8, .inl g_11)), (q_13, .inl ((cs 0), 8, .inl g_15)), (q_17, .inl ((cs 0), 8, .inl g_19)), (q_21, .inl ((cs 0), 8, .inl g_23)), (q_25, .inl ((cs 0), 6, .inl g_27))] := hD
  refine lv_aload_n hx hb dX2_init_60 rfl (lv_at hl 0 rfl) ?_
  refine lv_bipush (v := 6) hx hb dX2_init_61 (by decide) ?_
  refine va_newa (atype := .int) hx hb (hT _ qq_1_86) rfl hK hP hD hS hA (a0 := (6, .inl (fun _ => 0))) (fun _ => rfl) (by decide) (by decide) (Nat.le_of_ble_eq_true rfl) (Nat.le_of_ble_eq_true rfl) (Nat.le_of_ble_eq_true rfl) dX2_init_63 (fun q_29 k_30 H hK9 hP hD hS => ?_)
  obtain rfl := ka_eq 0 rfl (fun _ => rfl) hK9
  obtain ⟨g_31, ra_32, hP, hD⟩ : ∃ g_31 : Nat → Int32, (∀ j, j < 6 → Rg 0 0 (g_31 j)) ∧ va_P D vwCl [(hl0, .inr (2, [.int 0, .int 0, .int 0, .int 0, .int 0, .int 0, .int 0, .int 0, .int 0, .int 0, .int 0, .ref q_1, .ref q_5, .ref q_9, .ref q_13, .ref q_17, .ref q_21, .ref q_25, .null])), (q_1, .inl ((cs 0), 8, .inl g_3)), (q_5, .inl ((cs 0), 8, .inl g_7)), (q_9, .inl ((cs 0), 8, .inl g_11)), (q_13, .inl ((cs 0), 8, .inl g_15)), (q_17, .inl ((cs 0), 8, .inl g_19)), (q_21, .inl ((cs 0), 8, .inl g_23)), (q_25, .inl ((cs 0), 6, .inl g_27)), (q_29, .inl ((cs 0), 6, .inl g_31))] H ∧ va_D A [(hl0, .inr (2, [.int 0, .int 0, .int 0, .int 0, .int 0, .int 0, .int 0, .int 0, .int 0, .int 0, .int 0, .ref q_1, .ref q_5, .ref q_9, .ref q_13, .ref q_17, .ref q_21, .ref q_25, .null])), (q_1, .inl ((cs 0), 8, .inl g_3)), (q_5, .inl ((cs 0), 8, .inl g_7)), (q_9, .inl ((cs 0), 8, .inl g_11)), (q_13, .inl ((cs 0), 8, .inl g_15)), (q_17, .inl ((cs 0), 8, .inl g_19)), (q_21, .inl ((cs 0), 8, .inl g_23)), (q_25, .inl ((cs 0), 6, .inl g_27)), (q_29, .inl ((cs 0), 6, .inl g_31))] := ⟨_, fun _ _ => Rg.c rfl, hP, hD⟩
  refine W.widen (k := 8) (n := 60) (Nat.le_of_ble_eq_true rfl) (Nat.le_of_ble_eq_true rfl) ?_
  refine va_putF (D := D) (ci := 2) (v := .ref q_29) (ty := .array .int) (C := "WrongHole$Lift") (T := TX2) (N := 19) hx hb hts (iq_RX2 _) tyX2 tyX2_ok nmX2 hown hK hP hD hS 0 rfl rfl 18 (by decide) (hT _ qq_2_83) (fun _ h9 => h9) rfl hnm rfl (by decide +kernel) rfl rfl (Nat.le_of_ble_eq_true rfl) dX2_init_65 (fun H locs hP hD hS => ?_)
  have hP : va_P D vwCl [(hl0, .inr (2, [.int 0, .int 0, .int 0, .int 0, .int 0, .int 0, .int 0, .int 0, .int 0, .int 0, .int 0, .ref q_1, .ref q_5, .ref q_9, .ref q_13, .ref q_17, .ref q_21, .ref q_25, .ref q_29])), (q_1, .inl ((cs 0), 8, .inl g_3)), (q_5, .inl ((cs 0), 8, .inl g_7)), (q_9, .inl ((cs 0), 8, .inl g_11)), (q_13, .inl ((cs 0), 8, .inl g_15)), (q_17, .inl ((cs 0), 8, .inl g_19)), (q_21, .inl ((cs 0), 8, .inl g_23)), (q_25, .inl ((cs 0), 6, .inl g_27)), (q_29, .inl ((cs 0), 6, .inl g_31))] H := hP
  have hD : va_D A [(hl0, .inr (2, [.int 0, .int 0, .int 0, .int 0, .int 0, .int 0, .int 0, .int 0, .int 0, .int 0, .int 0, .ref q_1, .ref q_5, .ref q_9, .ref q_13, .ref q_17, .ref q_21, .ref q_25, .ref q_29])), (q_1, .inl ((cs 0), 8, .inl g_3)), (q_5, .inl ((cs 0), 8, .inl g_7)), (q_9, .inl ((cs 0), 8, .inl g_11)), (q_13, .inl ((cs 0), 8, .inl g_15)), (q_17, .inl ((cs 0), 8, .inl g_19)), (q_21, .inl ((cs 0), 8, .inl g_23)), (q_25, .inl ((cs 0), 6, .inl g_27)), (q_29, .inl ((cs 0), 6, .inl g_31))] := hD
  refine lv_aload_n hx hb dX2_init_68 rfl (lv_at hl 0 rfl) ?_
  refine va_get (D := D) (ci := 2) (v := .ref q_9) (C := "WrongHole$Lift") (T := TX2) (N := 19) hx hb hts (iq_RX2 _) hown hK hP 0 rfl rfl 13 (by decide) (hT _ qq_2_72) (fun _ h9 => h9) rfl dX2_init_69 ?_
  refine lv_iconst (v := 1) hx hb dX2_init_72 (by decide) ?_
  have hPc := hP.sub (ws' := [(q_9, .inl ((cs 0), 8, .inl g_11))]) [3] rfl
  have hDc := hD.sub (ws' := [(q_9, .inl ((cs 0), 8, .inl g_11))]) [3] (by decide) rfl
  have hFc := va_free (wc := [(q_9, .inl ((cs 0), 8, .inl g_11))]) hD hS hA [3] rfl
  refine va_callv (va_runS (As := [.ref q_9, .int 1]) (rest := []) ⟨hx, hb, hml, hown, hts⟩ (c_fill l D cs X H.size q_9 8 g_11 1 (by decide)) ⟨callB_of 2 hts (gd_C qq_1_97) rfl rfl rfl (hT _ qq_1_5) (hT _ qq_2_28) (by decide +kernel) (rm_R rfl rfl), (hT _ qq_1_96)⟩ (pr_S hPc hK hDc hN (hR.sub (wo' := []) [] rfl) hS hFc hX hXs) rfl rfl hl.1 rfl (lv_room (Nat.le_of_ble_eq_true rfl)) dX2_init_73 ⟨Nat.le_of_ble_eq_true rfl, Nat.le_of_ble_eq_true rfl⟩) hS (fun q _ h => hFc q h) hFc (fun u_33 t_36 H1 locs ht9 hvm hw_34 hB_35 hz1 hk1 hS => ?_)
  obtain ⟨g_38, rp_39, hP1, hD1⟩ := hB_35
  rw [ht9] at hP1
  obtain ⟨hP, hD⟩ := va_join (wr := [(hl0, .inr (2, [.int 0, .int 0, .int 0, .int 0, .int 0, .int 0, .int 0, .int 0, .int 0, .int 0, .int 0, .ref q_1, .ref q_5, .ref q_9, .ref q_13, .ref q_17, .ref q_21, .ref q_25, .ref q_29])), (q_1, .inl ((cs 0), 8, .inl g_3)), (q_5, .inl ((cs 0), 8, .inl g_7)), (q_13, .inl ((cs 0), 8, .inl g_15)), (q_17, .inl ((cs 0), 8, .inl g_19)), (q_21, .inl ((cs 0), 8, .inl g_23)), (q_25, .inl ((cs 0), 6, .inl g_27)), (q_29, .inl ((cs 0), 6, .inl g_31))]) (w1 := [(q_9, .inl ((cs 0), 8, .inl g_38))]) hP hD [3] [0, 1, 2, 4, 5, 6, 7, 8] rfl rfl (by decide) (by decide) hk1 hFc hP1 hD1
  generalize H1 = H at hP hS ⊢
  have hP : va_P D vwCl [(hl0, .inr (2, [.int 0, .int 0, .int 0, .int 0, .int 0, .int 0, .int 0, .int 0, .int 0, .int 0, .int 0, .ref q_1, .ref q_5, .ref q_9, .ref q_13, .ref q_17, .ref q_21, .ref q_25, .ref q_29])), (q_1, .inl ((cs 0), 8, .inl g_3)), (q_5, .inl ((cs 0), 8, .inl g_7)), (q_13, .inl ((cs 0), 8, .inl g_15)), (q_17, .inl ((cs 0), 8, .inl g_19)), (q_21, .inl ((cs 0), 8, .inl g_23)), (q_25, .inl ((cs 0), 6, .inl g_27)), (q_29, .inl ((cs 0), 6, .inl g_31)), (q_9, .inl ((cs 0), 8, .inl g_38))] H := hP
  have hD : va_D A [(hl0, .inr (2, [.int 0, .int 0, .int 0, .int 0, .int 0, .int 0, .int 0, .int 0, .int 0, .int 0, .int 0, .ref q_1, .ref q_5, .ref q_9, .ref q_13, .ref q_17, .ref q_21, .ref q_25, .ref q_29])), (q_1, .inl ((cs 0), 8, .inl g_3)), (q_5, .inl ((cs 0), 8, .inl g_7)), (q_13, .inl ((cs 0), 8, .inl g_15)), (q_17, .inl ((cs 0), 8, .inl g_19)), (q_21, .inl ((cs 0), 8, .inl g_23)), (q_25, .inl ((cs 0), 6, .inl g_27)), (q_29, .inl ((cs 0), 6, .inl g_31)), (q_9, .inl ((cs 0), 8, .inl g_38))] := hD
  have ra_40 : ∀ j, j < 8 → Rg 1 1 (g_38 j) := fun j _ => Rg.of (rp_39 j) (Rg.c (c := 1) (k := 1) rfl)
  have hP := hP.sub (ws' := [(hl0, .inr (2, [.int 0, .int 0, .int 0, .int 0, .int 0, .int 0, .int 0, .int 0, .int 0, .int 0, .int 0, .ref q_1, .ref q_5, .ref q_9, .ref q_13, .ref q_17, .ref q_21, .ref q_25, .ref q_29])), (q_1, .inl ((cs 0), 8, .inl g_3)), (q_5, .inl ((cs 0), 8, .inl g_7)), (q_9, .inl ((cs 0), 8, .inl g_38)), (q_13, .inl ((cs 0), 8, .inl g_15)), (q_17, .inl ((cs 0), 8, .inl g_19)), (q_21, .inl ((cs 0), 8, .inl g_23)), (q_25, .inl ((cs 0), 6, .inl g_27)), (q_29, .inl ((cs 0), 6, .inl g_31))]) [0, 1, 2, 8, 3, 4, 5, 6, 7] rfl
  have hD := hD.sub (ws' := [(hl0, .inr (2, [.int 0, .int 0, .int 0, .int 0, .int 0, .int 0, .int 0, .int 0, .int 0, .int 0, .int 0, .ref q_1, .ref q_5, .ref q_9, .ref q_13, .ref q_17, .ref q_21, .ref q_25, .ref q_29])), (q_1, .inl ((cs 0), 8, .inl g_3)), (q_5, .inl ((cs 0), 8, .inl g_7)), (q_9, .inl ((cs 0), 8, .inl g_38)), (q_13, .inl ((cs 0), 8, .inl g_15)), (q_17, .inl ((cs 0), 8, .inl g_19)), (q_21, .inl ((cs 0), 8, .inl g_23)), (q_25, .inl ((cs 0), 6, .inl g_27)), (q_29, .inl ((cs 0), 6, .inl g_31))]) [0, 1, 2, 8, 3, 4, 5, 6, 7] (by decide) rfl
  refine lv_aload_n hx hb dX2_init_76 rfl (lv_at hl 0 rfl) ?_
  refine va_get (D := D) (ci := 2) (v := .ref q_13) (C := "WrongHole$Lift") (T := TX2) (N := 19) hx hb hts (iq_RX2 _) hown hK hP 0 rfl rfl 14 (by decide) (hT _ qq_2_74) (fun _ h9 => h9) rfl dX2_init_77 ?_
  refine lv_iconst (v := 2) hx hb dX2_init_80 (by decide) ?_
  have hPc := hP.sub (ws' := [(q_13, .inl ((cs 0), 8, .inl g_15))]) [4] rfl
  have hDc := hD.sub (ws' := [(q_13, .inl ((cs 0), 8, .inl g_15))]) [4] (by decide) rfl
  have hFc := va_free (wc := [(q_13, .inl ((cs 0), 8, .inl g_15))]) hD hS hA [4] rfl
  refine va_callv (va_runS (As := [.ref q_13, .int 2]) (rest := []) ⟨hx, hb, hml, hown, hts⟩ (c_fill l D cs X H.size q_13 8 g_15 2 (by decide)) ⟨callB_of 2 hts (gd_C qq_1_97) rfl rfl rfl (hT _ qq_1_5) (hT _ qq_2_28) (by decide +kernel) (rm_R rfl rfl), (hT _ qq_1_96)⟩ (pr_S hPc hK hDc hN (hR.sub (wo' := []) [] rfl) hS hFc hX hXs) rfl rfl hl.1 rfl (lv_room (Nat.le_of_ble_eq_true rfl)) dX2_init_81 ⟨Nat.le_of_ble_eq_true rfl, Nat.le_of_ble_eq_true rfl⟩) hS (fun q _ h => hFc q h) hFc (fun u_41 t_44 H1 locs ht9 hvm hw_42 hB_43 hz1 hk1 hS => ?_)
  obtain ⟨g_46, rp_47, hP1, hD1⟩ := hB_43
  rw [ht9] at hP1
  obtain ⟨hP, hD⟩ := va_join (wr := [(hl0, .inr (2, [.int 0, .int 0, .int 0, .int 0, .int 0, .int 0, .int 0, .int 0, .int 0, .int 0, .int 0, .ref q_1, .ref q_5, .ref q_9, .ref q_13, .ref q_17, .ref q_21, .ref q_25, .ref q_29])), (q_1, .inl ((cs 0), 8, .inl g_3)), (q_5, .inl ((cs 0), 8, .inl g_7)), (q_9, .inl ((cs 0), 8, .inl g_38)), (q_17, .inl ((cs 0), 8, .inl g_19)), (q_21, .inl ((cs 0), 8, .inl g_23)), (q_25, .inl ((cs 0), 6, .inl g_27)), (q_29, .inl ((cs 0), 6, .inl g_31))]) (w1 := [(q_13, .inl ((cs 0), 8, .inl g_46))]) hP hD [4] [0, 1, 2, 3, 5, 6, 7, 8] rfl rfl (by decide) (by decide) hk1 hFc hP1 hD1
  generalize H1 = H at hP hS ⊢
  have hP : va_P D vwCl [(hl0, .inr (2, [.int 0, .int 0, .int 0, .int 0, .int 0, .int 0, .int 0, .int 0, .int 0, .int 0, .int 0, .ref q_1, .ref q_5, .ref q_9, .ref q_13, .ref q_17, .ref q_21, .ref q_25, .ref q_29])), (q_1, .inl ((cs 0), 8, .inl g_3)), (q_5, .inl ((cs 0), 8, .inl g_7)), (q_9, .inl ((cs 0), 8, .inl g_38)), (q_17, .inl ((cs 0), 8, .inl g_19)), (q_21, .inl ((cs 0), 8, .inl g_23)), (q_25, .inl ((cs 0), 6, .inl g_27)), (q_29, .inl ((cs 0), 6, .inl g_31)), (q_13, .inl ((cs 0), 8, .inl g_46))] H := hP
  have hD : va_D A [(hl0, .inr (2, [.int 0, .int 0, .int 0, .int 0, .int 0, .int 0, .int 0, .int 0, .int 0, .int 0, .int 0, .ref q_1, .ref q_5, .ref q_9, .ref q_13, .ref q_17, .ref q_21, .ref q_25, .ref q_29])), (q_1, .inl ((cs 0), 8, .inl g_3)), (q_5, .inl ((cs 0), 8, .inl g_7)), (q_9, .inl ((cs 0), 8, .inl g_38)), (q_17, .inl ((cs 0), 8, .inl g_19)), (q_21, .inl ((cs 0), 8, .inl g_23)), (q_25, .inl ((cs 0), 6, .inl g_27)), (q_29, .inl ((cs 0), 6, .inl g_31)), (q_13, .inl ((cs 0), 8, .inl g_46))] := hD
  have ra_48 : ∀ j, j < 8 → Rg 2 2 (g_46 j) := fun j _ => Rg.of (rp_47 j) (Rg.c (c := 2) (k := 2) rfl)
  have hP := hP.sub (ws' := [(hl0, .inr (2, [.int 0, .int 0, .int 0, .int 0, .int 0, .int 0, .int 0, .int 0, .int 0, .int 0, .int 0, .ref q_1, .ref q_5, .ref q_9, .ref q_13, .ref q_17, .ref q_21, .ref q_25, .ref q_29])), (q_1, .inl ((cs 0), 8, .inl g_3)), (q_5, .inl ((cs 0), 8, .inl g_7)), (q_9, .inl ((cs 0), 8, .inl g_38)), (q_13, .inl ((cs 0), 8, .inl g_46)), (q_17, .inl ((cs 0), 8, .inl g_19)), (q_21, .inl ((cs 0), 8, .inl g_23)), (q_25, .inl ((cs 0), 6, .inl g_27)), (q_29, .inl ((cs 0), 6, .inl g_31))]) [0, 1, 2, 3, 8, 4, 5, 6, 7] rfl
  have hD := hD.sub (ws' := [(hl0, .inr (2, [.int 0, .int 0, .int 0, .int 0, .int 0, .int 0, .int 0, .int 0, .int 0, .int 0, .int 0, .ref q_1, .ref q_5, .ref q_9, .ref q_13, .ref q_17, .ref q_21, .ref q_25, .ref q_29])), (q_1, .inl ((cs 0), 8, .inl g_3)), (q_5, .inl ((cs 0), 8, .inl g_7)), (q_9, .inl ((cs 0), 8, .inl g_38)), (q_13, .inl ((cs 0), 8, .inl g_46)), (q_17, .inl ((cs 0), 8, .inl g_19)), (q_21, .inl ((cs 0), 8, .inl g_23)), (q_25, .inl ((cs 0), 6, .inl g_27)), (q_29, .inl ((cs 0), 6, .inl g_31))]) [0, 1, 2, 3, 8, 4, 5, 6, 7] (by decide) rfl
  refine lv_aload_n hx hb dX2_init_84 rfl (lv_at hl 0 rfl) ?_
  refine va_get (D := D) (ci := 2) (v := .ref q_17) (C := "WrongHole$Lift") (T := TX2) (N := 19) hx hb hts (iq_RX2 _) hown hK hP 0 rfl rfl 15 (by decide) (hT _ qq_2_76) (fun _ h9 => h9) rfl dX2_init_85 ?_
  refine lv_iconst (v := 1) hx hb dX2_init_88 (by decide) ?_
  have hPc := hP.sub (ws' := [(q_17, .inl ((cs 0), 8, .inl g_19))]) [5] rfl
  have hDc := hD.sub (ws' := [(q_17, .inl ((cs 0), 8, .inl g_19))]) [5] (by decide) rfl
  have hFc := va_free (wc := [(q_17, .inl ((cs 0), 8, .inl g_19))]) hD hS hA [5] rfl
  refine va_callv (va_runS (As := [.ref q_17, .int 1]) (rest := []) ⟨hx, hb, hml, hown, hts⟩ (c_fill l D cs X H.size q_17 8 g_19 1 (by decide)) ⟨callB_of 2 hts (gd_C qq_1_97) rfl rfl rfl (hT _ qq_1_5) (hT _ qq_2_28) (by decide +kernel) (rm_R rfl rfl), (hT _ qq_1_96)⟩ (pr_S hPc hK hDc hN (hR.sub (wo' := []) [] rfl) hS hFc hX hXs) rfl rfl hl.1 rfl (lv_room (Nat.le_of_ble_eq_true rfl)) dX2_init_89 ⟨Nat.le_of_ble_eq_true rfl, Nat.le_of_ble_eq_true rfl⟩) hS (fun q _ h => hFc q h) hFc (fun u_49 t_52 H1 locs ht9 hvm hw_50 hB_51 hz1 hk1 hS => ?_)
  obtain ⟨g_54, rp_55, hP1, hD1⟩ := hB_51
  rw [ht9] at hP1
  obtain ⟨hP, hD⟩ := va_join (wr := [(hl0, .inr (2, [.int 0, .int 0, .int 0, .int 0, .int 0, .int 0, .int 0, .int 0, .int 0, .int 0, .int 0, .ref q_1, .ref q_5, .ref q_9, .ref q_13, .ref q_17, .ref q_21, .ref q_25, .ref q_29])), (q_1, .inl ((cs 0), 8, .inl g_3)), (q_5, .inl ((cs 0), 8, .inl g_7)), (q_9, .inl ((cs 0), 8, .inl g_38)), (q_13, .inl ((cs 0), 8, .inl g_46)), (q_21, .inl ((cs 0), 8, .inl g_23)), (q_25, .inl ((cs 0), 6, .inl g_27)), (q_29, .inl ((cs 0), 6, .inl g_31))]) (w1 := [(q_17, .inl ((cs 0), 8, .inl g_54))]) hP hD [5] [0, 1, 2, 3, 4, 6, 7, 8] rfl rfl (by decide) (by decide) hk1 hFc hP1 hD1
  generalize H1 = H at hP hS ⊢
  have hP : va_P D vwCl [(hl0, .inr (2, [.int 0, .int 0, .int 0, .int 0, .int 0, .int 0, .int 0, .int 0, .int 0, .int 0, .int 0, .ref q_1, .ref q_5, .ref q_9, .ref q_13, .ref q_17, .ref q_21, .ref q_25, .ref q_29])), (q_1, .inl ((cs 0), 8, .inl g_3)), (q_5, .inl ((cs 0), 8, .inl g_7)), (q_9, .inl ((cs 0), 8, .inl g_38)), (q_13, .inl ((cs 0), 8, .inl g_46)), (q_21, .inl ((cs 0), 8, .inl g_23)), (q_25, .inl ((cs 0), 6, .inl g_27)), (q_29, .inl ((cs 0), 6, .inl g_31)), (q_17, .inl ((cs 0), 8, .inl g_54))] H := hP
  have hD : va_D A [(hl0, .inr (2, [.int 0, .int 0, .int 0, .int 0, .int 0, .int 0, .int 0, .int 0, .int 0, .int 0, .int 0, .ref q_1, .ref q_5, .ref q_9, .ref q_13, .ref q_17, .ref q_21, .ref q_25, .ref q_29])), (q_1, .inl ((cs 0), 8, .inl g_3)), (q_5, .inl ((cs 0), 8, .inl g_7)), (q_9, .inl ((cs 0), 8, .inl g_38)), (q_13, .inl ((cs 0), 8, .inl g_46)), (q_21, .inl ((cs 0), 8, .inl g_23)), (q_25, .inl ((cs 0), 6, .inl g_27)), (q_29, .inl ((cs 0), 6, .inl g_31)), (q_17, .inl ((cs 0), 8, .inl g_54))] := hD
  have ra_56 : ∀ j, j < 8 → Rg 1 1 (g_54 j) := fun j _ => Rg.of (rp_55 j) (Rg.c (c := 1) (k := 1) rfl)
  have hP := hP.sub (ws' := [(hl0, .inr (2, [.int 0, .int 0, .int 0, .int 0, .int 0, .int 0, .int 0, .int 0, .int 0, .int 0, .int 0, .ref q_1, .ref q_5, .ref q_9, .ref q_13, .ref q_17, .ref q_21, .ref q_25, .ref q_29])), (q_1, .inl ((cs 0), 8, .inl g_3)), (q_5, .inl ((cs 0), 8, .inl g_7)), (q_9, .inl ((cs 0), 8, .inl g_38)), (q_13, .inl ((cs 0), 8, .inl g_46)), (q_17, .inl ((cs 0), 8, .inl g_54)), (q_21, .inl ((cs 0), 8, .inl g_23)), (q_25, .inl ((cs 0), 6, .inl g_27)), (q_29, .inl ((cs 0), 6, .inl g_31))]) [0, 1, 2, 3, 4, 8, 5, 6, 7] rfl
  have hD := hD.sub (ws' := [(hl0, .inr (2, [.int 0, .int 0, .int 0, .int 0, .int 0, .int 0, .int 0, .int 0, .int 0, .int 0, .int 0, .ref q_1, .ref q_5, .ref q_9, .ref q_13, .ref q_17, .ref q_21, .ref q_25, .ref q_29])), (q_1, .inl ((cs 0), 8, .inl g_3)), (q_5, .inl ((cs 0), 8, .inl g_7)), (q_9, .inl ((cs 0), 8, .inl g_38)), (q_13, .inl ((cs 0), 8, .inl g_46)), (q_17, .inl ((cs 0), 8, .inl g_54)), (q_21, .inl ((cs 0), 8, .inl g_23)), (q_25, .inl ((cs 0), 6, .inl g_27)), (q_29, .inl ((cs 0), 6, .inl g_31))]) [0, 1, 2, 3, 4, 8, 5, 6, 7] (by decide) rfl
  refine W.widen (k := 8) (n := 60) (Nat.le_of_ble_eq_true rfl) (Nat.le_of_ble_eq_true rfl) ?_
  have hP9 := hP.sub (ws' := [(hl0, .inr (2, [.int 0, .int 0, .int 0, .int 0, .int 0, .int 0, .int 0, .int 0, .int 0, .int 0, .int 0, .ref q_1, .ref q_5, .ref q_9, .ref q_13, .ref q_17, .ref q_21, .ref q_25, .ref q_29])), (q_1, .inl ((cs 0), 8, .inl g_3)), (q_5, .inl ((cs 0), 8, .inl g_7)), (q_9, .inl ((cs 0), 8, .inl g_38)), (q_13, .inl ((cs 0), 8, .inl g_46)), (q_17, .inl ((cs 0), 8, .inl g_54)), (q_21, .inl ((cs 0), 8, .inl g_23)), (q_25, .inl ((cs 0), 6, .inl g_27)), (q_29, .inl ((cs 0), 6, .inl g_31))]) [0, 1, 2, 3, 4, 5, 6, 7, 8] rfl
  have hD9 := hD.sub (ws' := [(hl0, .inr (2, [.int 0, .int 0, .int 0, .int 0, .int 0, .int 0, .int 0, .int 0, .int 0, .int 0, .int 0, .ref q_1, .ref q_5, .ref q_9, .ref q_13, .ref q_17, .ref q_21, .ref q_25, .ref q_29])), (q_1, .inl ((cs 0), 8, .inl g_3)), (q_5, .inl ((cs 0), 8, .inl g_7)), (q_9, .inl ((cs 0), 8, .inl g_38)), (q_13, .inl ((cs 0), 8, .inl g_46)), (q_17, .inl ((cs 0), 8, .inl g_54)), (q_21, .inl ((cs 0), 8, .inl g_23)), (q_25, .inl ((cs 0), 6, .inl g_27)), (q_29, .inl ((cs 0), 6, .inl g_31))]) [0, 1, 2, 3, 4, 5, 6, 7, 8] (by decide) rfl
  exact W.vret hx hb hr (fun t9 ht9 hW9 => ⟨⟨(), rfl, trivial, ⟨q_1, q_5, q_9, q_13, q_17, q_21, q_25, q_29, g_3, g_7, g_38, g_46, g_54, g_23, g_27, g_31, by rw [ht9]; exact hP9, hD9⟩⟩, hS.F ht9⟩) hS.2.2 dX2_init_92
theorem dX2_finish_0 : decode cX2_finish 0 = .ok (.aload_n 0, 1) := by decide +kernel
theorem dX2_finish_1 : decode cX2_finish 1 = .ok (.getfield 40, 3) := by decide +kernel
theorem dX2_finish_4 : decode cX2_finish 4 = .ok (.ifCond .ne 9, 3) := by decide +kernel
theorem dX2_finish_13 : decode cX2_finish 13 = .ok (.iconst 0, 1) := by decide +kernel
theorem dX2_finish_14 : decode cX2_finish 14 = .ok (.istore_n 1, 1) := by decide +kernel
theorem dX2_finish_15 : decode cX2_finish 15 = .ok (.iload_n 1, 1) := by decide +kernel
theorem dX2_finish_16 : decode cX2_finish 16 = .ok (.aload_n 0, 1) := by decide +kernel
theorem dX2_finish_17 : decode cX2_finish 17 = .ok (.getfield 44, 3) := by decide +kernel
theorem dX2_finish_20 : decode cX2_finish 20 = .ok (.if_icmp .ge 67, 3) := by decide +kernel
theorem dX2_finish_87 : decode cX2_finish 87 = .ok (.return_, 1) := by decide +kernel
theorem dX2_finish_23 : decode cX2_finish 23 = .ok (.iconst 0, 1) := by decide +kernel
theorem dX2_finish_24 : decode cX2_finish 24 = .ok (.istore_n 2, 1) := by decide +kernel
theorem dX2_finish_25 : decode cX2_finish 25 = .ok (.iconst 0, 1) := by decide +kernel
theorem dX2_finish_26 : decode cX2_finish 26 = .ok (.istore_n 3, 1) := by decide +kernel
theorem dX2_finish_27 : decode cX2_finish 27 = .ok (.iload_n 3, 1) := by decide +kernel
theorem dX2_finish_28 : decode cX2_finish 28 = .ok (.aload_n 0, 1) := by decide +kernel
theorem dX2_finish_29 : decode cX2_finish 29 = .ok (.getfield 47, 3) := by decide +kernel
theorem dX2_finish_32 : decode cX2_finish 32 = .ok (.if_icmp .ge 28, 3) := by decide +kernel
theorem dX2_finish_60 : decode cX2_finish 60 = .ok (.aload_n 0, 1) := by decide +kernel
theorem dX2_finish_61 : decode cX2_finish 61 = .ok (.getfield 25, 3) := by decide +kernel
theorem dX2_finish_64 : decode cX2_finish 64 = .ok (.iload_n 1, 1) := by decide +kernel
theorem dX2_finish_65 : decode cX2_finish 65 = .ok (.iload_n 2, 1) := by decide +kernel
theorem dX2_finish_66 : decode cX2_finish 66 = .ok (.iastore, 1) := by decide +kernel
theorem dX2_finish_67 : decode cX2_finish 67 = .ok (.aload_n 0, 1) := by decide +kernel
theorem dX2_finish_68 : decode cX2_finish 68 = .ok (.dup, 1) := by decide +kernel
theorem dX2_finish_69 : decode cX2_finish 69 = .ok (.getfield 54, 3) := by decide +kernel
theorem dX2_finish_72 : decode cX2_finish 72 = .ok (.iload_n 2, 1) := by decide +kernel
theorem dX2_finish_73 : decode cX2_finish 73 = .ok (.iconst 1, 1) := by decide +kernel
theorem dX2_finish_74 : decode cX2_finish 74 = .ok (.iload_n 1, 1) := by decide +kernel
theorem dX2_finish_75 : decode cX2_finish 75 = .ok (.ishl, 1) := by decide +kernel
theorem dX2_finish_76 : decode cX2_finish 76 = .ok (.iand, 1) := by decide +kernel
theorem dX2_finish_77 : decode cX2_finish 77 = .ok (.ior, 1) := by decide +kernel
theorem dX2_finish_78 : decode cX2_finish 78 = .ok (.putfield 54, 3) := by decide +kernel
theorem dX2_finish_81 : decode cX2_finish 81 = .ok (.iinc 1 1, 3) := by decide +kernel
theorem dX2_finish_84 : decode cX2_finish 84 = .ok (.goto (-69), 3) := by decide +kernel
theorem dX2_finish_35 : decode cX2_finish 35 = .ok (.iload_n 2, 1) := by decide +kernel
theorem dX2_finish_36 : decode cX2_finish 36 = .ok (.aload_n 0, 1) := by decide +kernel
theorem dX2_finish_37 : decode cX2_finish 37 = .ok (.iload_n 1, 1) := by decide +kernel
theorem dX2_finish_38 : decode cX2_finish 38 = .ok (.iload_n 3, 1) := by decide +kernel
theorem dX2_finish_39 : decode cX2_finish 39 = .ok (.invokevirtual 50, 3) := by decide +kernel
theorem dX2_finish_42 : decode cX2_finish 42 = .ok (.ifCond .eq 9, 3) := by decide +kernel
theorem dX2_finish_52 : decode cX2_finish 52 = .ok (.ior, 1) := by decide +kernel
theorem dX2_finish_53 : decode cX2_finish 53 = .ok (.istore_n 2, 1) := by decide +kernel
theorem dX2_finish_54 : decode cX2_finish 54 = .ok (.iinc 3 1, 3) := by decide +kernel
theorem dX2_finish_57 : decode cX2_finish 57 = .ok (.goto (-30), 3) := by decide +kernel
theorem dX2_finish_51 : decode cX2_finish 51 = .ok (.iconst 0, 1) := by decide +kernel
theorem dX2_finish_45 : decode cX2_finish 45 = .ok (.iconst 1, 1) := by decide +kernel
theorem dX2_finish_46 : decode cX2_finish 46 = .ok (.iload_n 3, 1) := by decide +kernel
theorem dX2_finish_47 : decode cX2_finish 47 = .ok (.ishl, 1) := by decide +kernel
theorem dX2_finish_48 : decode cX2_finish 48 = .ok (.goto 4, 3) := by decide +kernel
theorem dX2_finish_7 : decode cX2_finish 7 = .ok (.aload_n 0, 1) := by decide +kernel
theorem dX2_finish_8 : decode cX2_finish 8 = .ok (.bipush 8, 2) := by decide +kernel
theorem dX2_finish_10 : decode cX2_finish 10 = .ok (.putfield 40, 3) := by decide +kernel
set_option maxHeartbeats 4000000 in
set_option maxRecDepth 100000 in
theorem c_Lift_finish (l : Launch) (D : va_G) (cs : Nat → ClassId) (X : XX) (sz : Nat) (hl0 : Nat) (lb : Int32) (lh : Int32) (lg : Int32) (lw : Int32) (lv : Int32) (lbs : Int32) (lti : Int32) (lts : Int32) (le : Int32) (lk : Int32) (la : Int32) (l0 : Nat) (l1 : Nat) (l2 : Nat) (l3 : Nat) (l4 : Nat) (l5 : Nat) (l6 : Nat) (l7 : Nat) (f0 : Nat → Int32) (f1 : Nat → Int32) (f2 : Nat → Int32) (f3 : Nat → Int32) (f4 : Nat → Int32) (f5 : Nat → Int32) (f6 : Nat → Int32) (f7 : Nat → Int32) (r_lb : Rg 0 8 lb) (r_lh : Rg 0 8 lh) (r_le : Rg 0 6 le) : Met l yX2_finish (Cond.code yX2_finish cX2_finish 4 none :: TB) (RM 1 0 0) (va_Pc [.ref hl0] (PRE D cs X [(hl0, .inr (2, [.int lb, .int lh, .int lg, .int lw, .int lv, .int lbs, .int lti, .int lts, .int le, .int lk, .int la, .ref l0, .ref l1, .ref l2, .ref l3, .ref l4, .ref l5, .ref l6, .ref l7])), (l0, .inl ((cs 0), 8, .inl f0)), (l1, .inl ((cs 0), 8, .inl f1)), (l2, .inl ((cs 0), 8, .inl f2)), (l3, .inl ((cs 0), 8, .inl f3)), (l4, .inl ((cs 0), 8, .inl f4)), (l5, .inl ((cs 0), 8, .inl f5)), (l6, .inl ((cs 0), 6, .inl f6)), (l7, .inl ((cs 0), 6, .inl f7))] [] sz)) (va_Qv (S := Unit) (fun _ => True) (fun _ t => ∃ (lbs2 : Int32), ∃ (la2 : Int32), ∃ (f5n : Nat → Int32), va_P D vwCl [(hl0, .inr (2, [.int lb, .int lh, .int lg, .int lw, .int lv, .int lbs2, .int lti, .int lts, .int le, .int lk, .int la2, .ref l0, .ref l1, .ref l2, .ref l3, .ref l4, .ref l5, .ref l6, .ref l7])), (l0, .inl ((cs 0), 8, .inl f0)), (l1, .inl ((cs 0), 8, .inl f1)), (l2, .inl ((cs 0), 8, .inl f2)), (l3, .inl ((cs 0), 8, .inl f3)), (l4, .inl ((cs 0), 8, .inl f4)), (l5, .inl ((cs 0), 8, .inl f5n)), (l6, .inl ((cs 0), 6, .inl f6)), (l7, .inl ((cs 0), 6, .inl f7))] t.heap ∧ va_D (va_A [(hl0, .inr (2, [.int lb, .int lh, .int lg, .int lw, .int lv, .int lbs, .int lti, .int lts, .int le, .int lk, .int la, .ref l0, .ref l1, .ref l2, .ref l3, .ref l4, .ref l5, .ref l6, .ref l7])), (l0, .inl ((cs 0), 8, .inl f0)), (l1, .inl ((cs 0), 8, .inl f1)), (l2, .inl ((cs 0), 8, .inl f2)), (l3, .inl ((cs 0), 8, .inl f3)), (l4, .inl ((cs 0), 8, .inl f4)), (l5, .inl ((cs 0), 8, .inl f5)), (l6, .inl ((cs 0), 6, .inl f6)), (l7, .inl ((cs 0), 6, .inl f7))] sz) [(hl0, .inr (2, [.int lb, .int lh, .int lg, .int lw, .int lv, .int lbs2, .int lti, .int lts, .int le, .int lk, .int la2, .ref l0, .ref l1, .ref l2, .ref l3, .ref l4, .ref l5, .ref l6, .ref l7])), (l0, .inl ((cs 0), 8, .inl f0)), (l1, .inl ((cs 0), 8, .inl f1)), (l2, .inl ((cs 0), 8, .inl f2)), (l3, .inl ((cs 0), 8, .inl f3)), (l4, .inl ((cs 0), 8, .inl f4)), (l5, .inl ((cs 0), 8, .inl f5n)), (l6, .inl ((cs 0), 6, .inl f6)), (l7, .inl ((cs 0), 6, .inl f7))]) (va_A [(hl0, .inr (2, [.int lb, .int lh, .int lg, .int lw, .int lv, .int lbs, .int lti, .int lts, .int le, .int lk, .int la, .ref l0, .ref l1, .ref l2, .ref l3, .ref l4, .ref l5, .ref l6, .ref l7])), (l0, .inl ((cs 0), 8, .inl f0)), (l1, .inl ((cs 0), 8, .inl f1)), (l2, .inl ((cs 0), 8, .inl f2)), (l3, .inl ((cs 0), 8, .inl f3)), (l4, .inl ((cs 0), 8, .inl f4)), (l5, .inl ((cs 0), 8, .inl f5)), (l6, .inl ((cs 0), 6, .inl f6)), (l7, .inl ((cs 0), 6, .inl f7))] sz)) 0 0 (va_A [(hl0, .inr (2, [.int lb, .int lh, .int lg, .int lw, .int lv, .int lbs, .int lti, .int lts, .int le, .int lk, .int la, .ref l0, .ref l1, .ref l2, .ref l3, .ref l4, .ref l5, .ref l6, .ref l7])), (l0, .inl ((cs 0), 8, .inl f0)), (l1, .inl ((cs 0), 8, .inl f1)), (l2, .inl ((cs 0), 8, .inl f2)), (l3, .inl ((cs 0), 8, .inl f3)), (l4, .inl ((cs 0), 8, .inl f4)), (l5, .inl ((cs 0), 8, .inl f5)), (l6, .inl ((cs 0), 6, .inl f6)), (l7, .inl ((cs 0), 6, .inl f7))] sz) := by
  refine MET (y := yX2_finish) (cc := cX2_finish) (maxL := 4) (ret := none) (d := 1) (mc := 0) (ms := 0) (D := D) (cs := cs) (X := X) (ws := [(hl0, .inr (2, [.int lb, .int lh, .int lg, .int lw, .int lv, .int lbs, .int lti, .int lts, .int le, .int lk, .int la, .ref l0, .ref l1, .ref l2, .ref l3, .ref l4, .ref l5, .ref l6, .ref l7])), (l0, .inl ((cs 0), 8, .inl f0)), (l1, .inl ((cs 0), 8, .inl f1)), (l2, .inl ((cs 0), 8, .inl f2)), (l3, .inl ((cs 0), 8, .inl f3)), (l4, .inl ((cs 0), 8, .inl f4)), (l5, .inl ((cs 0), 8, .inl f5)), (l6, .inl ((cs 0), 6, .inl f6)), (l7, .inl ((cs 0), 6, .inl f7))]) (wo := []) (sz := sz) (av := [.ref hl0]) (Qc := fun A => va_Qv (S := Unit) (fun _ => True) (fun _ t => ∃ (lbs2 : Int32), ∃ (la2 : Int32), ∃ (f5n : Nat → Int32), va_P D vwCl [(hl0, .inr (2, [.int lb, .int lh, .int lg, .int lw, .int lv, .int lbs2, .int lti, .int lts, .int le, .int lk, .int la2, .ref l0, .ref l1, .ref l2, .ref l3, .ref l4, .ref l5, .ref l6, .ref l7])), (l0, .inl ((cs 0), 8, .inl f0)), (l1, .inl ((cs 0), 8, .inl f1)), (l2, .inl ((cs 0), 8, .inl f2)), (l3, .inl ((cs 0), 8, .inl f3)), (l4, .inl ((cs 0), 8, .inl f4)), (l5, .inl ((cs 0), 8, .inl f5n)), (l6, .inl ((cs 0), 6, .inl f6)), (l7, .inl ((cs 0), 6, .inl f7))] t.heap ∧ va_D A [(hl0, .inr (2, [.int lb, .int lh, .int lg, .int lw, .int lv, .int lbs2, .int lti, .int lts, .int le, .int lk, .int la2, .ref l0, .ref l1, .ref l2, .ref l3, .ref l4, .ref l5, .ref l6, .ref l7])), (l0, .inl ((cs 0), 8, .inl f0)), (l1, .inl ((cs 0), 8, .inl f1)), (l2, .inl ((cs 0), 8, .inl f2)), (l3, .inl ((cs 0), 8, .inl f3)), (l4, .inl ((cs 0), 8, .inl f4)), (l5, .inl ((cs 0), 8, .inl f5n)), (l6, .inl ((cs 0), 6, .inl f6)), (l7, .inl ((cs 0), 6, .inl f7))]) A) (by decide) (Nat.le_of_ble_eq_true rfl) ?_
  intro p e s m below meth c ls A H hHe hx hb hr hml hown hts hlocks hnm hP hK hD hA hS hN hR hX hXs hl
  have hD : va_D A [(hl0, .inr (2, [.int lb, .int lh, .int lg, .int lw, .int lv, .int lbs, .int lti, .int lts, .int le, .int lk, .int la, .ref l0, .ref l1, .ref l2, .ref l3, .ref l4, .ref l5, .ref l6, .ref l7])), (l0, .inl ((cs 0), 8, .inl f0)), (l1, .inl ((cs 0), 8, .inl f1)), (l2, .inl ((cs 0), 8, .inl f2)), (l3, .inl ((cs 0), 8, .inl f3)), (l4, .inl ((cs 0), 8, .inl f4)), (l5, .inl ((cs 0), 8, .inl f5)), (l6, .inl ((cs 0), 6, .inl f6)), (l7, .inl ((cs 0), 6, .inl f7))] := hD
  obtain ⟨locs, hlc⟩ : ∃ z : List Loc, z = [] := ⟨_, rfl⟩
  rw [← hlc] at hS ⊢
  have hown : s.vm.findClass "WrongHole$Lift" = some m.cls := hown
  have hT : ∀ w ∈ TB, w.before ([.ref hl0] : List Value).toArray s = true := fun w h => hts w (List.mem_cons_of_mem _ h)
  have hl : lv_has ls 4 [(0, .ref hl0)] := hl
  have hP : va_P D vwCl [(hl0, .inr (2, [.int lb, .int lh, .int lg, .int lw, .int lv, .int lbs, .int lti, .int lts, .int le, .int lk, .int la, .ref l0, .ref l1, .ref l2, .ref l3, .ref l4, .ref l5, .ref l6, .ref l7])), (l0, .inl ((cs 0), 8, .inl f0)), (l1, .inl ((cs 0), 8, .inl f1)), (l2, .inl ((cs 0), 8, .inl f2)), (l3, .inl ((cs 0), 8, .inl f3)), (l4, .inl ((cs 0), 8, .inl f4)), (l5, .inl ((cs 0), 8, .inl f5)), (l6, .inl ((cs 0), 6, .inl f6)), (l7, .inl ((cs 0), 6, .inl f7))] H := hP
  refine lv_aload_n hx hb dX2_finish_0 rfl (lv_at hl 0 rfl) ?_
  refine va_get (D := D) (ci := 2) (v := .int lbs) (C := "WrongHole$Lift") (T := TX2) (N := 19) hx hb hts (iq_RX2 _) hown hK hP 0 rfl rfl 5 (by decide) (hT _ qq_2_49) (fun _ h9 => h9) rfl dX2_finish_1 ?_
  refine w_cut (σ := (Int32)) (fun (v_3 : Int32) H locs ls => va_P D vwCl [(hl0, .inr (2, [.int lb, .int lh, .int lg, .int lw, .int lv, .int v_3, .int lti, .int lts, .int le, .int lk, .int la, .ref l0, .ref l1, .ref l2, .ref l3, .ref l4, .ref l5, .ref l6, .ref l7])), (l0, .inl ((cs 0), 8, .inl f0)), (l1, .inl ((cs 0), 8, .inl f1)), (l2, .inl ((cs 0), 8, .inl f2)), (l3, .inl ((cs 0), 8, .inl f3)), (l4, .inl ((cs 0), 8, .inl f4)), (l5, .inl ((cs 0), 8, .inl f5)), (l6, .inl ((cs 0), 6, .inl f6)), (l7, .inl ((cs 0), 6, .inl f7))] H ∧ va_D A [(hl0, .inr (2, [.int lb, .int lh, .int lg, .int lw, .int lv, .int v_3, .int lti, .int lts, .int le, .int lk, .int la, .ref l0, .ref l1, .ref l2, .ref l3, .ref l4, .ref l5, .ref l6, .ref l7])), (l0, .inl ((cs 0), 8, .inl f0)), (l1, .inl ((cs 0), 8, .inl f1)), (l2, .inl ((cs 0), 8, .inl f2)), (l3, .inl ((cs 0), 8, .inl f3)), (l4, .inl ((cs 0), 8, .inl f4)), (l5, .inl ((cs 0), 8, .inl f5)), (l6, .inl ((cs 0), 6, .inl f6)), (l7, .inl ((cs 0), 6, .inl f7))] ∧ va_S A s.heap H locs ∧ lv_has ls 4 [(0, .ref hl0)]) 13 (fun (v_3 : Int32) => []) ?_ (fun hj_4 => ?_)
  · rintro v_3 H locs ls ⟨hP, hD, hS, hl⟩
    refine lv_iconst (v := 0) hx hb dX2_finish_13 (by decide) ?_
    refine lv_istore_n (lv' := [(1, .int 0), (0, .ref hl0)]) hx hb dX2_finish_14 rfl hl (by decide) rfl (fun ls hl => ?_)
    refine w_wh (σ := (Int32) × (Int32) × (Nat → Int32)) (fun x9 H locs ls => match x9 with | (v_886, v_887, g_888) => Rg 0 8 v_886 ∧ va_P D vwCl [(hl0, .inr (2, [.int lb, .int lh, .int lg, .int lw, .int lv, .int v_3, .int lti, .int lts, .int le, .int lk, .int v_887, .ref l0, .ref l1, .ref l2, .ref l3, .ref l4, .ref l5, .ref l6, .ref l7])), (l0, .inl ((cs 0), 8, .inl f0)), (l1, .inl ((cs 0), 8, .inl f1)), (l2, .inl ((cs 0), 8, .inl f2)), (l3, .inl ((cs 0), 8, .inl f3)), (l4, .inl ((cs 0), 8, .inl f4)), (l5, .inl ((cs 0), 8, .inl g_888)), (l6, .inl ((cs 0), 6, .inl f6)), (l7, .inl ((cs 0), 6, .inl f7))] H ∧ va_D A [(hl0, .inr (2, [.int lb, .int lh, .int lg, .int lw, .int lv, .int v_3, .int lti, .int lts, .int le, .int lk, .int v_887, .ref l0, .ref l1, .ref l2, .ref l3, .ref l4, .ref l5, .ref l6, .ref l7])), (l0, .inl ((cs 0), 8, .inl f0)), (l1, .inl ((cs 0), 8, .inl f1)), (l2, .inl ((cs 0), 8, .inl f2)), (l3, .inl ((cs 0), 8, .inl f3)), (l4, .inl ((cs 0), 8, .inl f4)), (l5, .inl ((cs 0), 8, .inl g_888)), (l6, .inl ((cs 0), 6, .inl f6)), (l7, .inl ((cs 0), 6, .inl f7))] ∧ va_S A s.heap H locs ∧ lv_has ls 4 [(1, .int v_886), (0, .ref hl0)]) (fun x9 => match x9 with | (v_886, v_887, g_888) => (8 - Int32.toInt v_886).toNat) 15 ?_ (0, la, f5) H locs ls ⟨(Rg.wk (lo2 := 0) (hi2 := 8) (Rg.c (c := 0) (k := 0) rfl) (by decide)), hP, hD, hS, lv_sub hl [0, 1] rfl⟩
    rintro ⟨v_886, v_887, g_888⟩ H locs ls ⟨r_7939, hP, hD, hS, hl⟩ ih_7938
    refine lv_iload_n hx hb dX2_finish_15 rfl (lv_at hl 0 rfl) ?_
    refine lv_aload_n hx hb dX2_finish_16 rfl (lv_at hl 1 rfl) ?_
    refine va_get (D := D) (ci := 2) (v := .int lb) (C := "WrongHole$Lift") (T := TX2) (N := 19) hx hb hts (iq_RX2 _) hown hK hP 0 rfl rfl 0 (by decide) (hT _ qq_2_29) (fun _ h9 => h9) rfl dX2_finish_17 ?_
    refine lv_icmp_ge (tgt := 87) hx hb dX2_finish_20 (by decide) (fun c_7940 => ?_) (fun c_7940 => ?_)
    · refine W.widen (k := 0) (n := 0) (Nat.le_of_ble_eq_true rfl) (Nat.le_of_ble_eq_true rfl) ?_
      have hP9 := hP.sub (ws' := [(hl0, .inr (2, [.int lb, .int lh, .int lg, .int lw, .int lv, .int v_3, .int lti, .int lts, .int le, .int lk, .int v_887, .ref l0, .ref l1, .ref l2, .ref l3, .ref l4, .ref l5, .ref l6, .ref l7])), (l0, .inl ((cs 0), 8, .inl f0)), (l1, .inl ((cs 0), 8, .inl f1)), (l2, .inl ((cs 0), 8, .inl f2)), (l3, .inl ((cs 0), 8, .inl f3)), (l4, .inl ((cs 0), 8, .inl f4)), (l5, .inl ((cs 0), 8, .inl g_888)), (l6, .inl ((cs 0), 6, .inl f6)), (l7, .inl ((cs 0), 6, .inl f7))]) [0, 1, 2, 3, 4, 5, 6, 7, 8] rfl
      have hD9 := hD.sub (ws' := [(hl0, .inr (2, [.int lb, .int lh, .int lg, .int lw, .int lv, .int v_3, .int lti, .int lts, .int le, .int lk, .int v_887, .ref l0, .ref l1, .ref l2, .ref l3, .ref l4, .ref l5, .ref l6, .ref l7])), (l0, .inl ((cs 0), 8, .inl f0)), (l1, .inl ((cs 0), 8, .inl f1)), (l2, .inl ((cs 0), 8, .inl f2)), (l3, .inl ((cs 0), 8, .inl f3)), (l4, .inl ((cs 0), 8, .inl f4)), (l5, .inl ((cs 0), 8, .inl g_888)), (l6, .inl ((cs 0), 6, .inl f6)), (l7, .inl ((cs 0), 6, .inl f7))]) [0, 1, 2, 3, 4, 5, 6, 7, 8] (by decide) rfl
      exact W.vret hx hb hr (fun t9 ht9 hW9 => ⟨⟨(), rfl, trivial, ⟨v_3, v_887, g_888, by rw [ht9]; exact hP9, hD9⟩⟩, hS.F ht9⟩) hS.2.2 dX2_finish_87
    · have r_7941 : Rg 0 7 v_886 := Rg.lt_l (nle_lt c_7940) r_7939 r_lb (by decide)
      have r_7942 : Rg 1 8 lb := Rg.lt_r (nle_lt c_7940) r_7939 r_lb (by decide)
      refine lv_iconst (v := 0) hx hb dX2_finish_23 (by decide) ?_
      refine lv_istore_n (lv' := [(2, .int 0), (1, .int v_886), (0, .ref hl0)]) hx hb dX2_finish_24 rfl hl (by decide) rfl (fun ls hl => ?_)
      refine lv_iconst (v := 0) hx hb dX2_finish_25 (by decide) ?_
      refine lv_istore_n (lv' := [(3, .int 0), (2, .int 0), (1, .int v_886), (0, .ref hl0)]) hx hb dX2_finish_26 rfl hl (by decide) rfl (fun ls hl => ?_)
      refine w_wh (σ := (Int32) × (Int32)) (fun x9 H locs ls => match x9 with | (v_8480, v_8481) => Rg 0 8 v_8480 ∧ va_P D vwCl [(hl0, .inr (2, [.int lb, .int lh, .int lg, .int lw, .int lv, .int v_3, .int lti, .int lts, .int le, .int lk, .int v_887, .ref l0, .ref l1, .ref l2, .ref l3, .ref l4, .ref l5, .ref l6, .ref l7])), (l0, .inl ((cs 0), 8, .inl f0)), (l1, .inl ((cs 0), 8, .inl f1)), (l2, .inl ((cs 0), 8, .inl f2)), (l3, .inl ((cs 0), 8, .inl f3)), (l4, .inl ((cs 0), 8, .inl f4)), (l5, .inl ((cs 0), 8, .inl g_888)), (l6, .inl ((cs 0), 6, .inl f6)), (l7, .inl ((cs 0), 6, .inl f7))] H ∧ va_D A [(hl0, .inr (2, [.int lb, .int lh, .int lg, .int lw, .int lv, .int v_3, .int lti, .int lts, .int le, .int lk, .int v_887, .ref l0, .ref l1, .ref l2, .ref l3, .ref l4, .ref l5, .ref l6, .ref l7])), (l0, .inl ((cs 0), 8, .inl f0)), (l1, .inl ((cs 0), 8, .inl f1)), (l2, .inl ((cs 0), 8, .inl f2)), (l3, .inl ((cs 0), 8, .inl f3)), (l4, .inl ((cs 0), 8, .inl f4)), (l5, .inl ((cs 0), 8, .inl g_888)), (l6, .inl ((cs 0), 6, .inl f6)), (l7, .inl ((cs 0), 6, .inl f7))] ∧ va_S A s.heap H locs ∧ lv_has ls 4 [(3, .int v_8480), (2, .int v_8481), (1, .int v_886), (0, .ref hl0)]) (fun x9 => match x9 with | (v_8480, v_8481) => (8 - Int32.toInt v_8480).toNat) 27 ?_ (0, 0) H locs ls ⟨(Rg.wk (lo2 := 0) (hi2 := 8) (Rg.c (c := 0) (k := 0) rfl) (by decide)), hP, hD, hS, lv_sub hl [0, 1, 2, 3] rfl⟩
      rintro ⟨v_8480, v_8481⟩ H locs ls ⟨r_8897, hP, hD, hS, hl⟩ ih_8896
      refine lv_iload_n hx hb dX2_finish_27 rfl (lv_at hl 0 rfl) ?_
      refine lv_aload_n hx hb dX2_finish_28 rfl (lv_at hl 3 rfl) ?_
      refine va_get (D := D) (ci := 2) (v := .int lh) (C := "WrongHole$Lift") (T := TX2) (N := 19) hx hb hts (iq_RX2 _) hown hK hP 0 rfl rfl 1 (by decide) (hT _ qq_2_35) (fun _ h9 => h9) rfl dX2_finish_29 ?_
      refine lv_icmp_ge (tgt := 60) hx hb dX2_finish_32 (by decide) (fun c_8898 => ?_) (fun c_8898 => ?_)
      · refine lv_aload_n hx hb dX2_finish_60 rfl (lv_at hl 3 rfl) ?_
        refine va_get (D := D) (ci := 2) (v := .ref l5) (C := "WrongHole$Lift") (T := TX2) (N := 19) hx hb hts (iq_RX2 _) hown hK hP 0 rfl rfl 16 (by decide) (hT _ qq_2_79) (fun _ h9 => h9) rfl dX2_finish_61 ?_
        refine lv_iload_n hx hb dX2_finish_64 rfl (lv_at hl 2 rfl) ?_
        refine lv_iload_n hx hb dX2_finish_65 rfl (lv_at hl 1 rfl) ?_
        have hi_8919 : vp_in v_886 8 := Rg.in r_7941 (by decide)
        refine va_iast hx hb hK hP hD hS 6 0 rfl rfl hi_8919 dX2_finish_66 (fun H locs hP hD hS => ?_)
        obtain ⟨g_8920, hP, hD⟩ : ∃ g_8920 : Nat → Int32, va_P D vwCl [(hl0, .inr (2, [.int lb, .int lh, .int lg, .int lw, .int lv, .int v_3, .int lti, .int lts, .int le, .int lk, .int v_887, .ref l0, .ref l1, .ref l2, .ref l3, .ref l4, .ref l5, .ref l6, .ref l7])), (l0, .inl ((cs 0), 8, .inl f0)), (l1, .inl ((cs 0), 8, .inl f1)), (l2, .inl ((cs 0), 8, .inl f2)), (l3, .inl ((cs 0), 8, .inl f3)), (l4, .inl ((cs 0), 8, .inl f4)), (l5, .inl ((cs 0), 8, .inl g_8920)), (l6, .inl ((cs 0), 6, .inl f6)), (l7, .inl ((cs 0), 6, .inl f7))] H ∧ va_D A [(hl0, .inr (2, [.int lb, .int lh, .int lg, .int lw, .int lv, .int v_3, .int lti, .int lts, .int le, .int lk, .int v_887, .ref l0, .ref l1, .ref l2, .ref l3, .ref l4, .ref l5, .ref l6, .ref l7])), (l0, .inl ((cs 0), 8, .inl f0)), (l1, .inl ((cs 0), 8, .inl f1)), (l2, .inl ((cs 0), 8, .inl f2)), (l3, .inl ((cs 0), 8, .inl f3)), (l4, .inl ((cs 0), 8, .inl f4)), (l5, .inl ((cs 0), 8, .inl g_8920)), (l6, .inl ((cs 0), 6, .inl f6)), (l7, .inl ((cs 0), 6, .inl f7))] := ⟨_, hP, hD⟩
        refine lv_aload_n hx hb dX2_finish_67 rfl (lv_at hl 3 rfl) ?_
        refine lv_dup hx hb dX2_finish_68 rfl ?_
        refine va_get (D := D) (ci := 2) (v := .int v_887) (C := "WrongHole$Lift") (T := TX2) (N := 19) hx hb hts (iq_RX2 _) hown hK hP 0 rfl rfl 10 (by decide) (hT _ qq_2_62) (fun _ h9 => h9) rfl dX2_finish_69 ?_
        refine lv_iload_n hx hb dX2_finish_72 rfl (lv_at hl 1 rfl) ?_
        refine lv_iconst (v := 1) hx hb dX2_finish_73 (by decide) ?_
        refine lv_iload_n hx hb dX2_finish_74 rfl (lv_at hl 2 rfl) ?_
        refine lv_ishl hx hb dX2_finish_75 ?_
        refine lv_topi (fun x_8921 e_8922 => ?_)
        have r_8923 : Rg 0 128 x_8921 := Rg.shl (ha := 1) (k := 7) e_8922 (Rg.wk (Rg.c (c := 1) (k := 1) rfl) (by decide)) (Rg.wk r_7941 (by decide)) (by decide) (by decide)
        refine lv_iand hx hb dX2_finish_76 ?_
        refine lv_topi (fun x_8924 e_8925 => ?_)
        have r_8926 : Rg 0 128 x_8924 := Rg.and e_8925 r_8923 (by decide)
        refine lv_ior hx hb dX2_finish_77 ?_
        refine lv_topi (fun x_8927 e_8928 => ?_)
        refine va_put (D := D) (ci := 2) (v := .int x_8927) (ty := .int) (C := "WrongHole$Lift") (T := TX2) (N := 19) hx hb hts (iq_RX2 _) tyX2 tyX2_ok nmX2 hown hK hP hD hS 0 rfl rfl 10 (by decide) (hT _ qq_2_62) (fun _ h9 => h9) rfl (by decide +kernel) rfl rfl (Nat.le_of_ble_eq_true rfl) dX2_finish_78 (fun H locs hP hD hS => ?_)
        have hP : va_P D vwCl [(hl0, .inr (2, [.int lb, .int lh, .int lg, .int lw, .int lv, .int v_3, .int lti, .int lts, .int le, .int lk, .int x_8927, .ref l0, .ref l1, .ref l2, .ref l3, .ref l4, .ref l5, .ref l6, .ref l7])), (l0, .inl ((cs 0), 8, .inl f0)), (l1, .inl ((cs 0), 8, .inl f1)), (l2, .inl ((cs 0), 8, .inl f2)), (l3, .inl ((cs 0), 8, .inl f3)), (l4, .inl ((cs 0), 8, .inl f4)), (l5, .inl ((cs 0), 8, .inl g_8920)), (l6, .inl ((cs 0), 6, .inl f6)), (l7, .inl ((cs 0), 6, .inl f7))] H := hP
        have hD : va_D A [(hl0, .inr (2, [.int lb, .int lh, .int lg, .int lw, .int lv, .int v_3, .int lti, .int lts, .int le, .int lk, .int x_8927, .ref l0, .ref l1, .ref l2, .ref l3, .ref l4, .ref l5, .ref l6, .ref l7])), (l0, .inl ((cs 0), 8, .inl f0)), (l1, .inl ((cs 0), 8, .inl f1)), (l2, .inl ((cs 0), 8, .inl f2)), (l3, .inl ((cs 0), 8, .inl f3)), (l4, .inl ((cs 0), 8, .inl f4)), (l5, .inl ((cs 0), 8, .inl g_8920)), (l6, .inl ((cs 0), 6, .inl f6)), (l7, .inl ((cs 0), 6, .inl f7))] := hD
        obtain ⟨x_8929, e_8930⟩ : ∃ z : Int32, z = v_886 + Int32.ofInt 1 := ⟨_, rfl⟩
        have r_8931 : Rg 1 8 x_8929 := Rg.add e_8930 r_7941 (Rg.c (c := Int32.ofInt 1) (k := 1) rfl) (by decide)
        refine lv_iinc (v := x_8929) (lv' := [(1, .int x_8929), (3, .int v_8480), (2, .int v_8481), (0, .ref hl0)]) hx hb dX2_finish_81 hl (k := 2) rfl (e_8930.symm) (by decide) rfl (fun ls hl => ?_)
        refine lv_goto (tgt := 15) hx hb dX2_finish_84 (by decide) ?_
        exact ih_7938 (x_8929, x_8927, g_8920) _ _ _ ⟨(Rg.wk (lo2 := 0) (hi2 := 8) r_8931 (by decide)), hP, hD, hS, lv_sub hl [0, 3] rfl⟩ (ms_up e_8930 r_7941 (Rg.c (c := Int32.ofInt 1) (k := 1) rfl) (by decide))
      · have r_8899 : Rg 0 7 v_8480 := Rg.lt_l (nle_lt c_8898) r_8897 r_lh (by decide)
        have r_8900 : Rg 1 8 lh := Rg.lt_r (nle_lt c_8898) r_8897 r_lh (by decide)
        refine lv_iload_n hx hb dX2_finish_35 rfl (lv_at hl 1 rfl) ?_
        refine lv_aload_n hx hb dX2_finish_36 rfl (lv_at hl 3 rfl) ?_
        refine lv_iload_n hx hb dX2_finish_37 rfl (lv_at hl 2 rfl) ?_
        refine lv_iload_n hx hb dX2_finish_38 rfl (lv_at hl 0 rfl) ?_
        have hPc := va_P.sub (ws' := [(hl0, .inr (2, [.int lb, .int lh, .int lg, .int lw, .int lv, .int v_3, .int lti, .int lts, .int le, .int lk, .int v_887, .ref l0, .ref l1, .ref l2, .ref l3, .ref l4, .ref l5, .ref l6, .ref l7])), (l0, .inl ((cs 0), 8, .inl f0)), (l1, .inl ((cs 0), 8, .inl f1))]) hP [0, 1, 2] rfl
        refine cl_P (W.runV (As := [.int v_886, .int v_8480]) (rest := [.int v_8481]) ⟨hx, hb, hml, hown, hts⟩ (c_Lift_suits l D cs hl0 lb lh lg lw lv v_3 lti lts le lk v_887 l0 l1 l2 l3 l4 l5 l6 l7 f0 f1 v_886 v_8480 (Rg.wk (lo2 := 0) (hi2 := 8) r_7942 (by decide)) (Rg.wk (lo2 := 0) (hi2 := 8) r_8900 (by decide)) r_le r_7941 r_8899) ⟨callB_of 2 hts (gd_C qq_3_16) rfl rfl rfl (hT _ qq_1_11) (hT _ qq_3_13) (by decide +kernel) (rm_R rfl rfl), (hT _ qq_3_14), (hT _ qq_3_15)⟩ (pq_V hPc hK hN (ci := 2) (q0 := 0) rfl rfl) rfl rfl hl.1 rfl (lv_room (Nat.le_of_ble_eq_true rfl)) dX2_finish_39 ⟨Nat.le_of_ble_eq_true rfl, Nat.le_of_ble_eq_true rfl⟩) (fun v9 hz_8933 => ?_)
        obtain ⟨x_8932, rfl, r_8934⟩ := hz_8933
        refine w_cut (σ := (Int32)) (fun (v_8941 : Int32) H locs ls => Rg 0 128 v_8941 ∧ va_P D vwCl [(hl0, .inr (2, [.int lb, .int lh, .int lg, .int lw, .int lv, .int v_3, .int lti, .int lts, .int le, .int lk, .int v_887, .ref l0, .ref l1, .ref l2, .ref l3, .ref l4, .ref l5, .ref l6, .ref l7])), (l0, .inl ((cs 0), 8, .inl f0)), (l1, .inl ((cs 0), 8, .inl f1)), (l2, .inl ((cs 0), 8, .inl f2)), (l3, .inl ((cs 0), 8, .inl f3)), (l4, .inl ((cs 0), 8, .inl f4)), (l5, .inl ((cs 0), 8, .inl g_888)), (l6, .inl ((cs 0), 6, .inl f6)), (l7, .inl ((cs 0), 6, .inl f7))] H ∧ va_D A [(hl0, .inr (2, [.int lb, .int lh, .int lg, .int lw, .int lv, .int v_3, .int lti, .int lts, .int le, .int lk, .int v_887, .ref l0, .ref l1, .ref l2, .ref l3, .ref l4, .ref l5, .ref l6, .ref l7])), (l0, .inl ((cs 0), 8, .inl f0)), (l1, .inl ((cs 0), 8, .inl f1)), (l2, .inl ((cs 0), 8, .inl f2)), (l3, .inl ((cs 0), 8, .inl f3)), (l4, .inl ((cs 0), 8, .inl f4)), (l5, .inl ((cs 0), 8, .inl g_888)), (l6, .inl ((cs 0), 6, .inl f6)), (l7, .inl ((cs 0), 6, .inl f7))] ∧ va_S A s.heap H locs ∧ lv_has ls 4 [(3, .int v_8480), (2, .int v_8481), (1, .int v_886), (0, .ref hl0)]) 52 (fun (v_8941 : Int32) => [.int v_8941, .int v_8481]) ?_ (fun hj_8942 => ?_)
        · rintro v_8941 H locs ls ⟨r_8943, hP, hD, hS, hl⟩
          refine lv_ior hx hb dX2_finish_52 ?_
          refine lv_topi (fun x_8944 e_8945 => ?_)
          refine lv_istore_n (lv' := [(2, .int x_8944), (3, .int v_8480), (1, .int v_886), (0, .ref hl0)]) hx hb dX2_finish_53 rfl hl (by decide) rfl (fun ls hl => ?_)
          obtain ⟨x_8946, e_8947⟩ : ∃ z : Int32, z = v_8480 + Int32.ofInt 1 := ⟨_, rfl⟩
          have r_8948 : Rg 1 8 x_8946 := Rg.add e_8947 r_8899 (Rg.c (c := Int32.ofInt 1) (k := 1) rfl) (by decide)
          refine lv_iinc (v := x_8946) (lv' := [(3, .int x_8946), (2, .int x_8944), (1, .int v_886), (0, .ref hl0)]) hx hb dX2_finish_54 hl (k := 1) rfl (e_8947.symm) (by decide) rfl (fun ls hl => ?_)
          refine lv_goto (tgt := 27) hx hb dX2_finish_57 (by decide) ?_
          exact ih_8896 (x_8946, x_8944) _ _ _ ⟨(Rg.wk (lo2 := 0) (hi2 := 8) r_8948 (by decide)), hP, hD, hS, lv_sub hl [0, 1, 2, 3] rfl⟩ (ms_up e_8947 r_8899 (Rg.c (c := Int32.ofInt 1) (k := 1) rfl) (by decide))
        · refine lv_if_eq (tgt := 51) hx hb dX2_finish_42 (by decide) (fun c_8935 => ?_) (fun c_8935 => ?_)
          · have r_8936 : Rg 0 0 x_8932 := Rg.eq_l c_8935 r_8934 (Rg.c (c := 0) (k := 0) rfl) (by decide)
            refine lv_iconst (v := 0) hx hb dX2_finish_51 (by decide) ?_
            exact hj_8942 0 _ _ _ ⟨(Rg.wk (lo2 := 0) (hi2 := 128) (Rg.c (c := 0) (k := 0) rfl) (by decide)), hP, hD, hS, lv_sub hl [0, 1, 2, 3] rfl⟩
          · have r_8937 : Rg 1 1 x_8932 := Rg.ne c_8935 r_8934 (Rg.c (c := 0) (k := 0) rfl) (by decide)
            refine lv_iconst (v := 1) hx hb dX2_finish_45 (by decide) ?_
            refine lv_iload_n hx hb dX2_finish_46 rfl (lv_at hl 0 rfl) ?_
            refine lv_ishl hx hb dX2_finish_47 ?_
            refine lv_topi (fun x_8949 e_8950 => ?_)
            have r_8951 : Rg 0 128 x_8949 := Rg.shl (ha := 1) (k := 7) e_8950 (Rg.wk (Rg.c (c := 1) (k := 1) rfl) (by decide)) (Rg.wk r_8899 (by decide)) (by decide) (by decide)
            refine lv_goto (tgt := 52) hx hb dX2_finish_48 (by decide) ?_
            exact hj_8942 x_8949 _ _ _ ⟨r_8951, hP, hD, hS, lv_sub hl [0, 1, 2, 3] rfl⟩
  · refine lv_if_ne (tgt := 13) hx hb dX2_finish_4 (by decide) (fun c_1 => ?_) (fun c_1 => ?_)
    · exact hj_4 lbs _ _ _ ⟨hP, hD, hS, lv_sub hl [0] rfl⟩
    · have r_2 : Rg 0 0 lbs := Rg.eq_l c_1 (Rg.top lbs) (Rg.c (c := 0) (k := 0) rfl) (by decide)
      refine lv_aload_n hx hb dX2_finish_7 rfl (lv_at hl 0 rfl) ?_
      refine lv_bipush (v := 8) hx hb dX2_finish_8 (by decide) ?_
      refine va_put (D := D) (ci := 2) (v := .int 8) (ty := .int) (C := "WrongHole$Lift") (T := TX2) (N := 19) hx hb hts (iq_RX2 _) tyX2 tyX2_ok nmX2 hown hK hP hD hS 0 rfl rfl 5 (by decide) (hT _ qq_2_49) (fun _ h9 => h9) rfl (by decide +kernel) rfl rfl (Nat.le_of_ble_eq_true rfl) dX2_finish_10 (fun H locs hP hD hS => ?_)
      have hP : va_P D vwCl [(hl0, .inr (2, [.int lb, .int lh, .int lg, .int lw, .int lv, .int 8, .int lti, .int lts, .int le, .int lk, .int la, .ref l0, .ref l1, .ref l2, .ref l3, .ref l4, .ref l5, .ref l6, .ref l7])), (l0, .inl ((cs 0), 8, .inl f0)), (l1, .inl ((cs 0), 8, .inl f1)), (l2, .inl ((cs 0), 8, .inl f2)), (l3, .inl ((cs 0), 8, .inl f3)), (l4, .inl ((cs 0), 8, .inl f4)), (l5, .inl ((cs 0), 8, .inl f5)), (l6, .inl ((cs 0), 6, .inl f6)), (l7, .inl ((cs 0), 6, .inl f7))] H := hP
      have hD : va_D A [(hl0, .inr (2, [.int lb, .int lh, .int lg, .int lw, .int lv, .int 8, .int lti, .int lts, .int le, .int lk, .int la, .ref l0, .ref l1, .ref l2, .ref l3, .ref l4, .ref l5, .ref l6, .ref l7])), (l0, .inl ((cs 0), 8, .inl f0)), (l1, .inl ((cs 0), 8, .inl f1)), (l2, .inl ((cs 0), 8, .inl f2)), (l3, .inl ((cs 0), 8, .inl f3)), (l4, .inl ((cs 0), 8, .inl f4)), (l5, .inl ((cs 0), 8, .inl f5)), (l6, .inl ((cs 0), 6, .inl f6)), (l7, .inl ((cs 0), 6, .inl f7))] := hD
      exact hj_4 8 _ _ _ ⟨hP, hD, hS, lv_sub hl [0] rfl⟩
