theorem dJ6_bitCount_0f7a4_0 : decode cJ6_bitCount_0f7a4 0 = .ok (.iload_n 0, 1) := by decide +kernel
theorem dJ6_bitCount_0f7a4_1 : decode cJ6_bitCount_0f7a4 1 = .ok (.iload_n 0, 1) := by decide +kernel
theorem dJ6_bitCount_0f7a4_2 : decode cJ6_bitCount_0f7a4 2 = .ok (.iconst 1, 1) := by decide +kernel
theorem dJ6_bitCount_0f7a4_3 : decode cJ6_bitCount_0f7a4 3 = .ok (.iushr, 1) := by decide +kernel
theorem dJ6_bitCount_0f7a4_4 : decode cJ6_bitCount_0f7a4 4 = .ok (.ldc_w 265, 3) := by decide +kernel
theorem qq_3_27 : Cond.constant "java/lang/Integer" 265 1431655765 ∈ TB := mk_tb (ti_3 (List.mem_of_getElem? (i := 27) rfl)) rfl
theorem dJ6_bitCount_0f7a4_7 : decode cJ6_bitCount_0f7a4 7 = .ok (.iand, 1) := by decide +kernel
theorem dJ6_bitCount_0f7a4_8 : decode cJ6_bitCount_0f7a4 8 = .ok (.isub, 1) := by decide +kernel
theorem dJ6_bitCount_0f7a4_9 : decode cJ6_bitCount_0f7a4 9 = .ok (.istore_n 0, 1) := by decide +kernel
theorem dJ6_bitCount_0f7a4_10 : decode cJ6_bitCount_0f7a4 10 = .ok (.iload_n 0, 1) := by decide +kernel
theorem dJ6_bitCount_0f7a4_11 : decode cJ6_bitCount_0f7a4 11 = .ok (.ldc_w 266, 3) := by decide +kernel
theorem qq_3_28 : Cond.constant "java/lang/Integer" 266 858993459 ∈ TB := mk_tb (ti_3 (List.mem_of_getElem? (i := 28) rfl)) rfl
theorem dJ6_bitCount_0f7a4_14 : decode cJ6_bitCount_0f7a4 14 = .ok (.iand, 1) := by decide +kernel
theorem dJ6_bitCount_0f7a4_15 : decode cJ6_bitCount_0f7a4 15 = .ok (.iload_n 0, 1) := by decide +kernel
theorem dJ6_bitCount_0f7a4_16 : decode cJ6_bitCount_0f7a4 16 = .ok (.iconst 2, 1) := by decide +kernel
theorem dJ6_bitCount_0f7a4_17 : decode cJ6_bitCount_0f7a4 17 = .ok (.iushr, 1) := by decide +kernel
theorem dJ6_bitCount_0f7a4_18 : decode cJ6_bitCount_0f7a4 18 = .ok (.ldc_w 266, 3) := by decide +kernel
theorem dJ6_bitCount_0f7a4_21 : decode cJ6_bitCount_0f7a4 21 = .ok (.iand, 1) := by decide +kernel
theorem dJ6_bitCount_0f7a4_22 : decode cJ6_bitCount_0f7a4 22 = .ok (.iadd, 1) := by decide +kernel
theorem dJ6_bitCount_0f7a4_23 : decode cJ6_bitCount_0f7a4 23 = .ok (.istore_n 0, 1) := by decide +kernel
theorem dJ6_bitCount_0f7a4_24 : decode cJ6_bitCount_0f7a4 24 = .ok (.iload_n 0, 1) := by decide +kernel
theorem dJ6_bitCount_0f7a4_25 : decode cJ6_bitCount_0f7a4 25 = .ok (.iload_n 0, 1) := by decide +kernel
theorem dJ6_bitCount_0f7a4_26 : decode cJ6_bitCount_0f7a4 26 = .ok (.iconst 4, 1) := by decide +kernel
theorem dJ6_bitCount_0f7a4_27 : decode cJ6_bitCount_0f7a4 27 = .ok (.iushr, 1) := by decide +kernel
theorem dJ6_bitCount_0f7a4_28 : decode cJ6_bitCount_0f7a4 28 = .ok (.iadd, 1) := by decide +kernel
theorem dJ6_bitCount_0f7a4_29 : decode cJ6_bitCount_0f7a4 29 = .ok (.ldc_w 267, 3) := by decide +kernel
theorem qq_3_29 : Cond.constant "java/lang/Integer" 267 252645135 ∈ TB := mk_tb (ti_3 (List.mem_of_getElem? (i := 29) rfl)) rfl
theorem dJ6_bitCount_0f7a4_32 : decode cJ6_bitCount_0f7a4 32 = .ok (.iand, 1) := by decide +kernel
theorem dJ6_bitCount_0f7a4_33 : decode cJ6_bitCount_0f7a4 33 = .ok (.istore_n 0, 1) := by decide +kernel
theorem dJ6_bitCount_0f7a4_34 : decode cJ6_bitCount_0f7a4 34 = .ok (.iload_n 0, 1) := by decide +kernel
theorem dJ6_bitCount_0f7a4_35 : decode cJ6_bitCount_0f7a4 35 = .ok (.iload_n 0, 1) := by decide +kernel
theorem dJ6_bitCount_0f7a4_36 : decode cJ6_bitCount_0f7a4 36 = .ok (.bipush 8, 2) := by decide +kernel
theorem dJ6_bitCount_0f7a4_38 : decode cJ6_bitCount_0f7a4 38 = .ok (.iushr, 1) := by decide +kernel
theorem dJ6_bitCount_0f7a4_39 : decode cJ6_bitCount_0f7a4 39 = .ok (.iadd, 1) := by decide +kernel
theorem dJ6_bitCount_0f7a4_40 : decode cJ6_bitCount_0f7a4 40 = .ok (.istore_n 0, 1) := by decide +kernel
theorem dJ6_bitCount_0f7a4_41 : decode cJ6_bitCount_0f7a4 41 = .ok (.iload_n 0, 1) := by decide +kernel
theorem dJ6_bitCount_0f7a4_42 : decode cJ6_bitCount_0f7a4 42 = .ok (.iload_n 0, 1) := by decide +kernel
theorem dJ6_bitCount_0f7a4_43 : decode cJ6_bitCount_0f7a4 43 = .ok (.bipush 16, 2) := by decide +kernel
theorem dJ6_bitCount_0f7a4_45 : decode cJ6_bitCount_0f7a4 45 = .ok (.iushr, 1) := by decide +kernel
theorem dJ6_bitCount_0f7a4_46 : decode cJ6_bitCount_0f7a4 46 = .ok (.iadd, 1) := by decide +kernel
theorem dJ6_bitCount_0f7a4_47 : decode cJ6_bitCount_0f7a4 47 = .ok (.istore_n 0, 1) := by decide +kernel
theorem dJ6_bitCount_0f7a4_48 : decode cJ6_bitCount_0f7a4 48 = .ok (.iload_n 0, 1) := by decide +kernel
theorem dJ6_bitCount_0f7a4_49 : decode cJ6_bitCount_0f7a4 49 = .ok (.bipush 63, 2) := by decide +kernel
theorem dJ6_bitCount_0f7a4_51 : decode cJ6_bitCount_0f7a4 51 = .ok (.iand, 1) := by decide +kernel
theorem dJ6_bitCount_0f7a4_52 : decode cJ6_bitCount_0f7a4 52 = .ok (.ireturn, 1) := by decide +kernel
set_option maxHeartbeats 4000000 in
set_option maxRecDepth 100000 in
theorem c_bitCount (l : Launch) (D : va_G) (cs : Nat → ClassId) (a : Int32)  : Met l yJ6_bitCount_0f7a4 (Cond.code yJ6_bitCount_0f7a4 cJ6_bitCount_0f7a4 1 (some .int) :: TB) (RM 0 0 0) (va_Pc [.int a] (PRR D cs [])) (QP (fun v => ∃ x : Int32, v = .int x ∧ Rg 0 63 x)) 0 0 (fun _ => False) := by
  refine MER (y := yJ6_bitCount_0f7a4) (cc := cJ6_bitCount_0f7a4) (maxL := 1) (ret := (some .int)) (d := 0) (D := D) (cs := cs) (ws := []) (av := [.int a]) (Qc := QP (fun v => ∃ x : Int32, v = .int x ∧ Rg 0 63 x)) (by decide) (Nat.le_of_ble_eq_true rfl) ?_
  intro p e s m below meth c ls H hHe hx hb hr hml hown hts hlocks hP hK hN hl
  obtain ⟨locs, hlc⟩ : ∃ z : List Loc, z = [] := ⟨_, rfl⟩
  rw [← hlc]
  have hown : s.vm.findClass "java/lang/Integer" = some m.cls := hown
  have hT : ∀ w ∈ TB, w.before ([.int a] : List Value).toArray s = true := fun w h => hts w (List.mem_cons_of_mem _ h)
  have hl : lv_has ls 1 [(0, .int a)] := hl
  have hP : va_P D vwCl [] H := hP
  refine lv_iload_n hx hb dJ6_bitCount_0f7a4_0 rfl (lv_at hl 0 rfl) ?_
  refine lv_iload_n hx hb dJ6_bitCount_0f7a4_1 rfl (lv_at hl 0 rfl) ?_
  refine lv_iconst (v := 1) hx hb dJ6_bitCount_0f7a4_2 (by decide) ?_
  obtain ⟨x_1, e_2⟩ : ∃ z : Int32, (Int32.toUInt32 a >>> (Int32.toUInt32 1 &&& Int32.toUInt32 31)).toInt32 = z := ⟨_, rfl⟩
  refine lv_iushr (v := x_1) hx hb dJ6_bitCount_0f7a4_3 e_2 ?_
  refine lv_ldcw (v := 1431655765) hx hb hown (hT _ qq_3_27) dJ6_bitCount_0f7a4_4 ?_
  refine lv_iand hx hb dJ6_bitCount_0f7a4_7 ?_
  refine lv_topi (fun x_3 e_4 => ?_)
  have r_5 : Rg 0 1431655765 x_3 := Rg.and e_4 (Rg.c (c := 1431655765) (k := 1431655765) rfl) (by decide)
  refine lv_isub hx hb dJ6_bitCount_0f7a4_8 ?_
  refine lv_topi (fun x_6 e_7 => ?_)
  refine lv_istore_n (lv' := [(0, .int x_6)]) hx hb dJ6_bitCount_0f7a4_9 rfl hl (by decide) rfl (fun ls hl => ?_)
  refine lv_iload_n hx hb dJ6_bitCount_0f7a4_10 rfl (lv_at hl 0 rfl) ?_
  refine lv_ldcw (v := 858993459) hx hb hown (hT _ qq_3_28) dJ6_bitCount_0f7a4_11 ?_
  refine lv_iand hx hb dJ6_bitCount_0f7a4_14 ?_
  refine lv_topi (fun x_8 e_9 => ?_)
  have r_10 : Rg 0 858993459 x_8 := Rg.and e_9 (Rg.c (c := 858993459) (k := 858993459) rfl) (by decide)
  refine lv_iload_n hx hb dJ6_bitCount_0f7a4_15 rfl (lv_at hl 0 rfl) ?_
  refine lv_iconst (v := 2) hx hb dJ6_bitCount_0f7a4_16 (by decide) ?_
  obtain ⟨x_11, e_12⟩ : ∃ z : Int32, (Int32.toUInt32 x_6 >>> (Int32.toUInt32 2 &&& Int32.toUInt32 31)).toInt32 = z := ⟨_, rfl⟩
  refine lv_iushr (v := x_11) hx hb dJ6_bitCount_0f7a4_17 e_12 ?_
  refine lv_ldcw (v := 858993459) hx hb hown (hT _ qq_3_28) dJ6_bitCount_0f7a4_18 ?_
  refine lv_iand hx hb dJ6_bitCount_0f7a4_21 ?_
  refine lv_topi (fun x_13 e_14 => ?_)
  have r_15 : Rg 0 858993459 x_13 := Rg.and e_14 (Rg.c (c := 858993459) (k := 858993459) rfl) (by decide)
  refine lv_iadd hx hb dJ6_bitCount_0f7a4_22 ?_
  refine lv_topi (fun x_16 e_17 => ?_)
  have r_18 : Rg 0 1717986918 x_16 := Rg.add e_17 r_10 r_15 (by decide)
  refine lv_istore_n (lv' := [(0, .int x_16)]) hx hb dJ6_bitCount_0f7a4_23 rfl hl (by decide) rfl (fun ls hl => ?_)
  refine lv_iload_n hx hb dJ6_bitCount_0f7a4_24 rfl (lv_at hl 0 rfl) ?_
  refine lv_iload_n hx hb dJ6_bitCount_0f7a4_25 rfl (lv_at hl 0 rfl) ?_
  refine lv_iconst (v := 4) hx hb dJ6_bitCount_0f7a4_26 (by decide) ?_
  obtain ⟨x_19, e_20⟩ : ∃ z : Int32, (Int32.toUInt32 x_16 >>> (Int32.toUInt32 4 &&& Int32.toUInt32 31)).toInt32 = z := ⟨_, rfl⟩
  refine lv_iushr (v := x_19) hx hb dJ6_bitCount_0f7a4_27 e_20 ?_
  refine lv_iadd hx hb dJ6_bitCount_0f7a4_28 ?_
  refine lv_topi (fun x_21 e_22 => ?_)
  refine lv_ldcw (v := 252645135) hx hb hown (hT _ qq_3_29) dJ6_bitCount_0f7a4_29 ?_
  refine lv_iand hx hb dJ6_bitCount_0f7a4_32 ?_
  refine lv_topi (fun x_23 e_24 => ?_)
  have r_25 : Rg 0 252645135 x_23 := Rg.and e_24 (Rg.c (c := 252645135) (k := 252645135) rfl) (by decide)
  refine lv_istore_n (lv' := [(0, .int x_23)]) hx hb dJ6_bitCount_0f7a4_33 rfl hl (by decide) rfl (fun ls hl => ?_)
  refine lv_iload_n hx hb dJ6_bitCount_0f7a4_34 rfl (lv_at hl 0 rfl) ?_
  refine lv_iload_n hx hb dJ6_bitCount_0f7a4_35 rfl (lv_at hl 0 rfl) ?_
  refine lv_bipush (v := 8) hx hb dJ6_bitCount_0f7a4_36 (by decide) ?_
  obtain ⟨x_26, e_27⟩ : ∃ z : Int32, (Int32.toUInt32 x_23 >>> (Int32.toUInt32 8 &&& Int32.toUInt32 31)).toInt32 = z := ⟨_, rfl⟩
  refine lv_iushr (v := x_26) hx hb dJ6_bitCount_0f7a4_38 e_27 ?_
  refine lv_iadd hx hb dJ6_bitCount_0f7a4_39 ?_
  refine lv_topi (fun x_28 e_29 => ?_)
  refine lv_istore_n (lv' := [(0, .int x_28)]) hx hb dJ6_bitCount_0f7a4_40 rfl hl (by decide) rfl (fun ls hl => ?_)
  refine lv_iload_n hx hb dJ6_bitCount_0f7a4_41 rfl (lv_at hl 0 rfl) ?_
  refine lv_iload_n hx hb dJ6_bitCount_0f7a4_42 rfl (lv_at hl 0 rfl) ?_
  refine lv_bipush (v := 16) hx hb dJ6_bitCount_0f7a4_43 (by decide) ?_
  obtain ⟨x_30, e_31⟩ : ∃ z : Int32, (Int32.toUInt32 x_28 >>> (Int32.toUInt32 16 &&& Int32.toUInt32 31)).toInt32 = z := ⟨_, rfl⟩
  refine lv_iushr (v := x_30) hx hb dJ6_bitCount_0f7a4_45 e_31 ?_
  refine lv_iadd hx hb dJ6_bitCount_0f7a4_46 ?_
  refine lv_topi (fun x_32 e_33 => ?_)
  refine lv_istore_n (lv' := [(0, .int x_32)]) hx hb dJ6_bitCount_0f7a4_47 rfl hl (by decide) rfl (fun ls hl => ?_)
  refine lv_iload_n hx hb dJ6_bitCount_0f7a4_48 rfl (lv_at hl 0 rfl) ?_
  refine lv_bipush (v := 63) hx hb dJ6_bitCount_0f7a4_49 (by decide) ?_
  refine lv_iand hx hb dJ6_bitCount_0f7a4_51 ?_
  refine lv_topi (fun x_34 e_35 => ?_)
  have r_36 : Rg 0 63 x_34 := Rg.and e_35 (Rg.c (c := 63) (k := 63) rfl) (by decide)
  exact W.iret (v := x_34) hx hb hr (fun t9 ht9 hW9 => ⟨⟨_, rfl, _, rfl, r_36⟩, ht9.trans hHe⟩) (fun _ h9 => by rw [hlc] at h9; exact absurd h9 List.not_mem_nil) dJ6_bitCount_0f7a4_52
theorem dX6_keyOf_0 : decode cX6_keyOf 0 = .ok (.iload_n 0, 1) := by decide +kernel
theorem dX6_keyOf_1 : decode cX6_keyOf 1 = .ok (.bipush 8, 2) := by decide +kernel
theorem dX6_keyOf_3 : decode cX6_keyOf 3 = .ok (.ishl, 1) := by decide +kernel
theorem dX6_keyOf_4 : decode cX6_keyOf 4 = .ok (.iload_n 1, 1) := by decide +kernel
theorem dX6_keyOf_5 : decode cX6_keyOf 5 = .ok (.ior, 1) := by decide +kernel
theorem dX6_keyOf_6 : decode cX6_keyOf 6 = .ok (.ireturn, 1) := by decide +kernel
set_option maxHeartbeats 4000000 in
set_option maxRecDepth 100000 in
theorem c_Rows_keyOf (l : Launch) (D : va_G) (cs : Nat → ClassId) (a : Int32) (b : Int32)  : Met l yX6_keyOf (Cond.code yX6_keyOf cX6_keyOf 2 (some .int) :: TB) (RM 0 0 0) (va_Pc [.int a, .int b] (PRR D cs [])) (QP (fun v => ∃ x : Int32, v = .int x)) 0 0 (fun _ => False) := by
  refine MER (y := yX6_keyOf) (cc := cX6_keyOf) (maxL := 2) (ret := (some .int)) (d := 0) (D := D) (cs := cs) (ws := []) (av := [.int a, .int b]) (Qc := QP (fun v => ∃ x : Int32, v = .int x)) (by decide) (Nat.le_of_ble_eq_true rfl) ?_
  intro p e s m below meth c ls H hHe hx hb hr hml hown hts hlocks hP hK hN hl
  obtain ⟨locs, hlc⟩ : ∃ z : List Loc, z = [] := ⟨_, rfl⟩
  rw [← hlc]
  have hown : s.vm.findClass "WrongHole$Rows" = some m.cls := hown
  have hT : ∀ w ∈ TB, w.before ([.int a, .int b] : List Value).toArray s = true := fun w h => hts w (List.mem_cons_of_mem _ h)
  have hl : lv_has ls 2 [(0, .int a), (1, .int b)] := hl
  have hP : va_P D vwCl [] H := hP
  refine lv_iload_n hx hb dX6_keyOf_0 rfl (lv_at hl 0 rfl) ?_
  refine lv_bipush (v := 8) hx hb dX6_keyOf_1 (by decide) ?_
  refine lv_ishl hx hb dX6_keyOf_3 ?_
  refine lv_topi (fun x_1 e_2 => ?_)
  refine lv_iload_n hx hb dX6_keyOf_4 rfl (lv_at hl 1 rfl) ?_
  refine lv_ior hx hb dX6_keyOf_5 ?_
  refine lv_topi (fun x_3 e_4 => ?_)
  exact W.iret (v := x_3) hx hb hr (fun t9 ht9 hW9 => ⟨⟨_, rfl, _, rfl⟩, ht9.trans hHe⟩) (fun _ h9 => by rw [hlc] at h9; exact absurd h9 List.not_mem_nil) dX6_keyOf_6
theorem dX6_in_0 : decode cX6_in 0 = .ok (.iload_n 0, 1) := by decide +kernel
theorem dX6_in_1 : decode cX6_in 1 = .ok (.bipush 8, 2) := by decide +kernel
theorem dX6_in_3 : decode cX6_in 3 = .ok (.ishr, 1) := by decide +kernel
theorem dX6_in_4 : decode cX6_in 4 = .ok (.sipush 255, 3) := by decide +kernel
theorem dX6_in_7 : decode cX6_in 7 = .ok (.iand, 1) := by decide +kernel
theorem dX6_in_8 : decode cX6_in 8 = .ok (.ireturn, 1) := by decide +kernel
set_option maxHeartbeats 4000000 in
set_option maxRecDepth 100000 in
theorem c_Rows_in (l : Launch) (D : va_G) (cs : Nat → ClassId) (a : Int32)  : Met l yX6_in (Cond.code yX6_in cX6_in 1 (some .int) :: TB) (RM 0 0 0) (va_Pc [.int a] (PRR D cs [])) (QP (fun v => ∃ x : Int32, v = .int x ∧ Rg 0 255 x)) 0 0 (fun _ => False) := by
  refine MER (y := yX6_in) (cc := cX6_in) (maxL := 1) (ret := (some .int)) (d := 0) (D := D) (cs := cs) (ws := []) (av := [.int a]) (Qc := QP (fun v => ∃ x : Int32, v = .int x ∧ Rg 0 255 x)) (by decide) (Nat.le_of_ble_eq_true rfl) ?_
  intro p e s m below meth c ls H hHe hx hb hr hml hown hts hlocks hP hK hN hl
  obtain ⟨locs, hlc⟩ : ∃ z : List Loc, z = [] := ⟨_, rfl⟩
  rw [← hlc]
  have hown : s.vm.findClass "WrongHole$Rows" = some m.cls := hown
  have hT : ∀ w ∈ TB, w.before ([.int a] : List Value).toArray s = true := fun w h => hts w (List.mem_cons_of_mem _ h)
  have hl : lv_has ls 1 [(0, .int a)] := hl
  have hP : va_P D vwCl [] H := hP
  refine lv_iload_n hx hb dX6_in_0 rfl (lv_at hl 0 rfl) ?_
  refine lv_bipush (v := 8) hx hb dX6_in_1 (by decide) ?_
  refine lv_ishr hx hb dX6_in_3 ?_
  refine lv_topi (fun x_1 e_2 => ?_)
  refine lv_sipush (v := 255) hx hb dX6_in_4 (by decide) ?_
  refine lv_iand hx hb dX6_in_7 ?_
  refine lv_topi (fun x_3 e_4 => ?_)
  have r_5 : Rg 0 255 x_3 := Rg.and e_4 (Rg.c (c := 255) (k := 255) rfl) (by decide)
  exact W.iret (v := x_3) hx hb hr (fun t9 ht9 hW9 => ⟨⟨_, rfl, _, rfl, r_5⟩, ht9.trans hHe⟩) (fun _ h9 => by rw [hlc] at h9; exact absurd h9 List.not_mem_nil) dX6_in_8
theorem dX6_held_0 : decode cX6_held 0 = .ok (.iload_n 0, 1) := by decide +kernel
theorem dX6_held_1 : decode cX6_held 1 = .ok (.sipush 255, 3) := by decide +kernel
theorem dX6_held_4 : decode cX6_held 4 = .ok (.iand, 1) := by decide +kernel
theorem dX6_held_5 : decode cX6_held 5 = .ok (.ireturn, 1) := by decide +kernel
set_option maxHeartbeats 4000000 in
set_option maxRecDepth 100000 in
theorem c_Rows_held (l : Launch) (D : va_G) (cs : Nat → ClassId) (a : Int32)  : Met l yX6_held (Cond.code yX6_held cX6_held 1 (some .int) :: TB) (RM 0 0 0) (va_Pc [.int a] (PRR D cs [])) (QP (fun v => ∃ x : Int32, v = .int x ∧ Rg 0 255 x)) 0 0 (fun _ => False) := by
  refine MER (y := yX6_held) (cc := cX6_held) (maxL := 1) (ret := (some .int)) (d := 0) (D := D) (cs := cs) (ws := []) (av := [.int a]) (Qc := QP (fun v => ∃ x : Int32, v = .int x ∧ Rg 0 255 x)) (by decide) (Nat.le_of_ble_eq_true rfl) ?_
  intro p e s m below meth c ls H hHe hx hb hr hml hown hts hlocks hP hK hN hl
  obtain ⟨locs, hlc⟩ : ∃ z : List Loc, z = [] := ⟨_, rfl⟩
  rw [← hlc]
  have hown : s.vm.findClass "WrongHole$Rows" = some m.cls := hown
  have hT : ∀ w ∈ TB, w.before ([.int a] : List Value).toArray s = true := fun w h => hts w (List.mem_cons_of_mem _ h)
  have hl : lv_has ls 1 [(0, .int a)] := hl
  have hP : va_P D vwCl [] H := hP
  refine lv_iload_n hx hb dX6_held_0 rfl (lv_at hl 0 rfl) ?_
  refine lv_sipush (v := 255) hx hb dX6_held_1 (by decide) ?_
  refine lv_iand hx hb dX6_held_4 ?_
  refine lv_topi (fun x_1 e_2 => ?_)
  have r_3 : Rg 0 255 x_1 := Rg.and e_2 (Rg.c (c := 255) (k := 255) rfl) (by decide)
  exact W.iret (v := x_1) hx hb hr (fun t9 ht9 hW9 => ⟨⟨_, rfl, _, rfl, r_3⟩, ht9.trans hHe⟩) (fun _ h9 => by rw [hlc] at h9; exact absurd h9 List.not_mem_nil) dX6_held_5
theorem dX6_below_0 : decode cX6_below 0 = .ok (.iconst 1, 1) := by decide +kernel
theorem dX6_below_1 : decode cX6_below 1 = .ok (.iload_n 0, 1) := by decide +kernel
theorem dX6_below_2 : decode cX6_below 2 = .ok (.ishl, 1) := by decide +kernel
theorem dX6_below_3 : decode cX6_below 3 = .ok (.iconst 1, 1) := by decide +kernel
theorem dX6_below_4 : decode cX6_below 4 = .ok (.isub, 1) := by decide +kernel
theorem dX6_below_5 : decode cX6_below 5 = .ok (.ireturn, 1) := by decide +kernel
set_option maxHeartbeats 4000000 in
set_option maxRecDepth 100000 in
theorem c_Rows_below (l : Launch) (D : va_G) (cs : Nat → ClassId) (a : Int32)  : Met l yX6_below (Cond.code yX6_below cX6_below 1 (some .int) :: TB) (RM 0 0 0) (va_Pc [.int a] (PRR D cs [])) (QP (fun v => ∃ x : Int32, v = .int x)) 0 0 (fun _ => False) := by
  refine MER (y := yX6_below) (cc := cX6_below) (maxL := 1) (ret := (some .int)) (d := 0) (D := D) (cs := cs) (ws := []) (av := [.int a]) (Qc := QP (fun v => ∃ x : Int32, v = .int x)) (by decide) (Nat.le_of_ble_eq_true rfl) ?_
  intro p e s m below meth c ls H hHe hx hb hr hml hown hts hlocks hP hK hN hl
  obtain ⟨locs, hlc⟩ : ∃ z : List Loc, z = [] := ⟨_, rfl⟩
  rw [← hlc]
  have hown : s.vm.findClass "WrongHole$Rows" = some m.cls := hown
  have hT : ∀ w ∈ TB, w.before ([.int a] : List Value).toArray s = true := fun w h => hts w (List.mem_cons_of_mem _ h)
  have hl : lv_has ls 1 [(0, .int a)] := hl
  have hP : va_P D vwCl [] H := hP
  refine lv_iconst (v := 1) hx hb dX6_below_0 (by decide) ?_
  refine lv_iload_n hx hb dX6_below_1 rfl (lv_at hl 0 rfl) ?_
  refine lv_ishl hx hb dX6_below_2 ?_
  refine lv_topi (fun x_1 e_2 => ?_)
  refine lv_iconst (v := 1) hx hb dX6_below_3 (by decide) ?_
  refine lv_isub hx hb dX6_below_4 ?_
  refine lv_topi (fun x_3 e_4 => ?_)
  exact W.iret (v := x_3) hx hb hr (fun t9 ht9 hW9 => ⟨⟨_, rfl, _, rfl⟩, ht9.trans hHe⟩) (fun _ h9 => by rw [hlc] at h9; exact absurd h9 List.not_mem_nil) dX6_below_5
theorem dX6_staysRising_0 : decode cX6_staysRising 0 = .ok (.iload_n 0, 1) := by decide +kernel
theorem dX6_staysRising_1 : decode cX6_staysRising 1 = .ok (.invokestatic 9, 3) := by decide +kernel
theorem qq_2_230 : Cond.code yX6_in cX6_in 1 (some .int) ∈ TB := mk_tb (ti_2 (List.mem_of_getElem? (i := 230) rfl)) rfl
theorem qq_1_16 : Cond.initialized "WrongHole$Rows" ∈ TB := mk_tb (ti_1 (List.mem_of_getElem? (i := 16) rfl)) rfl
theorem qq_3_20 : Cond.methodLink "WrongHole$Rows" 9 yX6_in ∈ TB := mk_tb (ti_3 (List.mem_of_getElem? (i := 20) rfl)) rfl
theorem qq_2_229 : Cond.static yX6_in ∈ TB := mk_tb (ti_2 (List.mem_of_getElem? (i := 229) rfl)) rfl
theorem dX6_staysRising_4 : decode cX6_staysRising 4 = .ok (.iload_n 1, 1) := by decide +kernel
theorem dX6_staysRising_5 : decode cX6_staysRising 5 = .ok (.invokestatic 15, 3) := by decide +kernel
theorem qq_3_23 : Cond.code yX6_below cX6_below 1 (some .int) ∈ TB := mk_tb (ti_3 (List.mem_of_getElem? (i := 23) rfl)) rfl
theorem qq_3_21 : Cond.methodLink "WrongHole$Rows" 15 yX6_below ∈ TB := mk_tb (ti_3 (List.mem_of_getElem? (i := 21) rfl)) rfl
theorem qq_3_22 : Cond.static yX6_below ∈ TB := mk_tb (ti_3 (List.mem_of_getElem? (i := 22) rfl)) rfl
theorem dX6_staysRising_8 : decode cX6_staysRising 8 = .ok (.iand, 1) := by decide +kernel
theorem dX6_staysRising_9 : decode cX6_staysRising 9 = .ok (.invokestatic 18, 3) := by decide +kernel
theorem qq_3_26 : Cond.code yJ6_bitCount_0f7a4 cJ6_bitCount_0f7a4 1 (some .int) ∈ TB := mk_tb (ti_3 (List.mem_of_getElem? (i := 26) rfl)) rfl
theorem qq_1_17 : Cond.initialized "java/lang/Integer" ∈ TB := mk_tb (ti_1 (List.mem_of_getElem? (i := 17) rfl)) rfl
theorem qq_3_24 : Cond.methodLink "WrongHole$Rows" 18 yJ6_bitCount_0f7a4 ∈ TB := mk_tb (ti_3 (List.mem_of_getElem? (i := 24) rfl)) rfl
theorem qq_3_25 : Cond.static yJ6_bitCount_0f7a4 ∈ TB := mk_tb (ti_3 (List.mem_of_getElem? (i := 25) rfl)) rfl
theorem dX6_staysRising_12 : decode cX6_staysRising 12 = .ok (.iload_n 0, 1) := by decide +kernel
theorem dX6_staysRising_13 : decode cX6_staysRising 13 = .ok (.invokestatic 23, 3) := by decide +kernel
theorem qq_3_0 : Cond.code yX6_held cX6_held 1 (some .int) ∈ TB := mk_tb (ti_3 (List.mem_of_getElem? (i := 0) rfl)) rfl
theorem qq_3_30 : Cond.methodLink "WrongHole$Rows" 23 yX6_held ∈ TB := mk_tb (ti_3 (List.mem_of_getElem? (i := 30) rfl)) rfl
theorem qq_2_239 : Cond.static yX6_held ∈ TB := mk_tb (ti_2 (List.mem_of_getElem? (i := 239) rfl)) rfl
theorem dX6_staysRising_16 : decode cX6_staysRising 16 = .ok (.iload_n 2, 1) := by decide +kernel
theorem dX6_staysRising_17 : decode cX6_staysRising 17 = .ok (.invokestatic 15, 3) := by decide +kernel
theorem dX6_staysRising_20 : decode cX6_staysRising 20 = .ok (.iand, 1) := by decide +kernel
theorem dX6_staysRising_21 : decode cX6_staysRising 21 = .ok (.invokestatic 18, 3) := by decide +kernel
theorem dX6_staysRising_24 : decode cX6_staysRising 24 = .ok (.if_icmp .ne 7, 3) := by decide +kernel
theorem dX6_staysRising_31 : decode cX6_staysRising 31 = .ok (.iconst 0, 1) := by decide +kernel
theorem dX6_staysRising_32 : decode cX6_staysRising 32 = .ok (.ireturn, 1) := by decide +kernel
theorem dX6_staysRising_27 : decode cX6_staysRising 27 = .ok (.iconst 1, 1) := by decide +kernel
theorem dX6_staysRising_28 : decode cX6_staysRising 28 = .ok (.goto 4, 3) := by decide +kernel
set_option maxHeartbeats 4000000 in
set_option maxRecDepth 100000 in
theorem c_Rows_staysRising (l : Launch) (D : va_G) (cs : Nat → ClassId) (a : Int32) (b : Int32) (h : Int32)  : Met l yX6_staysRising (Cond.code yX6_staysRising cX6_staysRising 3 (some .boolean) :: TB) (RM 1 0 0) (va_Pc [.int a, .int b, .int h] (PRR D cs [])) (QP (fun v => ∃ x : Int32, v = .int x ∧ Rg 0 1 x)) 0 0 (fun _ => False) := by
  refine MER (y := yX6_staysRising) (cc := cX6_staysRising) (maxL := 3) (ret := (some .boolean)) (d := 1) (D := D) (cs := cs) (ws := []) (av := [.int a, .int b, .int h]) (Qc := QP (fun v => ∃ x : Int32, v = .int x ∧ Rg 0 1 x)) (by decide) (Nat.le_of_ble_eq_true rfl) ?_
  intro p e s m below meth c ls H hHe hx hb hr hml hown hts hlocks hP hK hN hl
  obtain ⟨locs, hlc⟩ : ∃ z : List Loc, z = [] := ⟨_, rfl⟩
  rw [← hlc]
  have hown : s.vm.findClass "WrongHole$Rows" = some m.cls := hown
  have hT : ∀ w ∈ TB, w.before ([.int a, .int b, .int h] : List Value).toArray s = true := fun w h => hts w (List.mem_cons_of_mem _ h)
  have hl : lv_has ls 3 [(0, .int a), (1, .int b), (2, .int h)] := hl
  have hP : va_P D vwCl [] H := hP
  refine lv_iload_n hx hb dX6_staysRising_0 rfl (lv_at hl 0 rfl) ?_
  have hPc := va_P.sub (ws' := []) hP [] rfl
  refine cl_P (W.runS (As := [.int a]) (rest := []) ⟨hx, hb, hml, hown, hts⟩ (c_Rows_in l D cs a) ⟨callB_of 1 hts (gd_C qq_2_230) rfl rfl rfl (hT _ qq_1_16) (hT _ qq_3_20) (by decide +kernel) (rm_R rfl rfl), (hT _ qq_2_229)⟩ (pq_S hPc hK hN) rfl rfl hl.1 rfl (lv_room (Nat.le_of_ble_eq_true rfl)) dX6_staysRising_1 ⟨Nat.le_of_ble_eq_true rfl, Nat.le_of_ble_eq_true rfl⟩) (fun v9 hz_2 => ?_)
  obtain ⟨x_1, rfl, r_3⟩ := hz_2
  refine lv_iload_n hx hb dX6_staysRising_4 rfl (lv_at hl 1 rfl) ?_
  have hPc := va_P.sub (ws' := []) hP [] rfl
  refine cl_P (W.runS (As := [.int b]) (rest := [.int x_1]) ⟨hx, hb, hml, hown, hts⟩ (c_Rows_below l D cs b) ⟨callB_of 1 hts (gd_C qq_3_23) rfl rfl rfl (hT _ qq_1_16) (hT _ qq_3_21) (by decide +kernel) (rm_R rfl rfl), (hT _ qq_3_22)⟩ (pq_S hPc hK hN) rfl rfl hl.1 rfl (lv_room (Nat.le_of_ble_eq_true rfl)) dX6_staysRising_5 ⟨Nat.le_of_ble_eq_true rfl, Nat.le_of_ble_eq_true rfl⟩) (fun v9 hz_5 => ?_)
  obtain ⟨x_4, rfl⟩ := hz_5
  refine lv_iand hx hb dX6_staysRising_8 ?_
  refine lv_topi (fun x_7 e_8 => ?_)
  have r_9 : Rg 0 255 x_7 := Rg.andl e_8 r_3 (by decide)
  have hPc := va_P.sub (ws' := []) hP [] rfl
  refine cl_P (W.runS (As := [.int x_7]) (rest := []) ⟨hx, hb, hml, hown, hts⟩ (c_bitCount l D cs x_7) ⟨callB_of 1 hts (gd_C qq_3_26) rfl rfl rfl (hT _ qq_1_17) (hT _ qq_3_24) (by decide +kernel) (rm_R rfl rfl), (hT _ qq_3_25)⟩ (pq_S hPc hK hN) rfl rfl hl.1 rfl (lv_room (Nat.le_of_ble_eq_true rfl)) dX6_staysRising_9 ⟨Nat.le_of_ble_eq_true rfl, Nat.le_of_ble_eq_true rfl⟩) (fun v9 hz_11 => ?_)
  obtain ⟨x_10, rfl, r_12⟩ := hz_11
  refine lv_iload_n hx hb dX6_staysRising_12 rfl (lv_at hl 0 rfl) ?_
  have hPc := va_P.sub (ws' := []) hP [] rfl
  refine cl_P (W.runS (As := [.int a]) (rest := [.int x_10]) ⟨hx, hb, hml, hown, hts⟩ (c_Rows_held l D cs a) ⟨callB_of 1 hts (gd_C qq_3_0) rfl rfl rfl (hT _ qq_1_16) (hT _ qq_3_30) (by decide +kernel) (rm_R rfl rfl), (hT _ qq_2_239)⟩ (pq_S hPc hK hN) rfl rfl hl.1 rfl (lv_room (Nat.le_of_ble_eq_true rfl)) dX6_staysRising_13 ⟨Nat.le_of_ble_eq_true rfl, Nat.le_of_ble_eq_true rfl⟩) (fun v9 hz_14 => ?_)
  obtain ⟨x_13, rfl, r_15⟩ := hz_14
  refine lv_iload_n hx hb dX6_staysRising_16 rfl (lv_at hl 2 rfl) ?_
  have hPc := va_P.sub (ws' := []) hP [] rfl
  refine cl_P (W.runS (As := [.int h]) (rest := [.int x_13, .int x_10]) ⟨hx, hb, hml, hown, hts⟩ (c_Rows_below l D cs h) ⟨callB_of 1 hts (gd_C qq_3_23) rfl rfl rfl (hT _ qq_1_16) (hT _ qq_3_21) (by decide +kernel) (rm_R rfl rfl), (hT _ qq_3_22)⟩ (pq_S hPc hK hN) rfl rfl hl.1 rfl (lv_room (Nat.le_of_ble_eq_true rfl)) dX6_staysRising_17 ⟨Nat.le_of_ble_eq_true rfl, Nat.le_of_ble_eq_true rfl⟩) (fun v9 hz_17 => ?_)
  obtain ⟨x_16, rfl⟩ := hz_17
  refine lv_iand hx hb dX6_staysRising_20 ?_
  refine lv_topi (fun x_19 e_20 => ?_)
  have r_21 : Rg 0 255 x_19 := Rg.andl e_20 r_15 (by decide)
  have hPc := va_P.sub (ws' := []) hP [] rfl
  refine cl_P (W.runS (As := [.int x_19]) (rest := [.int x_10]) ⟨hx, hb, hml, hown, hts⟩ (c_bitCount l D cs x_19) ⟨callB_of 1 hts (gd_C qq_3_26) rfl rfl rfl (hT _ qq_1_17) (hT _ qq_3_24) (by decide +kernel) (rm_R rfl rfl), (hT _ qq_3_25)⟩ (pq_S hPc hK hN) rfl rfl hl.1 rfl (lv_room (Nat.le_of_ble_eq_true rfl)) dX6_staysRising_21 ⟨Nat.le_of_ble_eq_true rfl, Nat.le_of_ble_eq_true rfl⟩) (fun v9 hz_23 => ?_)
  obtain ⟨x_22, rfl, r_24⟩ := hz_23
  refine lv_icmp_ne (tgt := 31) hx hb dX6_staysRising_24 (by decide) (fun c_25 => ?_) (fun c_25 => ?_)
  · refine lv_iconst (v := 0) hx hb dX6_staysRising_31 (by decide) ?_
    exact W.zret (v := 0) (ty := .boolean) hx hb hr rfl (fun t9 ht9 hW9 => ⟨⟨_, rfl, _, rfl, (Rg.wk (lo2 := 0) (hi2 := 1) (Rg.c (c := 0) (k := 0) rfl) (by decide))⟩, ht9.trans hHe⟩) (fun _ h9 => by rw [hlc] at h9; exact absurd h9 List.not_mem_nil) dX6_staysRising_32
  · refine lv_iconst (v := 1) hx hb dX6_staysRising_27 (by decide) ?_
    refine lv_goto (tgt := 32) hx hb dX6_staysRising_28 (by decide) ?_
    exact W.zret (v := 1) (ty := .boolean) hx hb hr rfl (fun t9 ht9 hW9 => ⟨⟨_, rfl, _, rfl, (Rg.wk (lo2 := 0) (hi2 := 1) (Rg.c (c := 1) (k := 1) rfl) (by decide))⟩, ht9.trans hHe⟩) (fun _ h9 => by rw [hlc] at h9; exact absurd h9 List.not_mem_nil) dX6_staysRising_32
theorem dX6_right_0 : decode cX6_right 0 = .ok (.iload_n 0, 1) := by decide +kernel
theorem dX6_right_1 : decode cX6_right 1 = .ok (.invokestatic 9, 3) := by decide +kernel
theorem dX6_right_4 : decode cX6_right 4 = .ok (.iload_n 0, 1) := by decide +kernel
theorem dX6_right_5 : decode cX6_right 5 = .ok (.invokestatic 23, 3) := by decide +kernel
theorem dX6_right_8 : decode cX6_right 8 = .ok (.iand, 1) := by decide +kernel
theorem dX6_right_9 : decode cX6_right 9 = .ok (.istore_n 1, 1) := by decide +kernel
theorem dX6_right_10 : decode cX6_right 10 = .ok (.iconst 0, 1) := by decide +kernel
theorem dX6_right_11 : decode cX6_right 11 = .ok (.istore_n 2, 1) := by decide +kernel
theorem dX6_right_12 : decode cX6_right 12 = .ok (.iconst 0, 1) := by decide +kernel
theorem dX6_right_13 : decode cX6_right 13 = .ok (.istore_n 3, 1) := by decide +kernel
theorem dX6_right_14 : decode cX6_right 14 = .ok (.iload_n 3, 1) := by decide +kernel
theorem dX6_right_15 : decode cX6_right 15 = .ok (.bipush 8, 2) := by decide +kernel
theorem dX6_right_17 : decode cX6_right 17 = .ok (.if_icmp .ge 32, 3) := by decide +kernel
theorem dX6_right_49 : decode cX6_right 49 = .ok (.iload_n 2, 1) := by decide +kernel
theorem dX6_right_50 : decode cX6_right 50 = .ok (.ireturn, 1) := by decide +kernel
theorem dX6_right_20 : decode cX6_right 20 = .ok (.iload_n 1, 1) := by decide +kernel
theorem dX6_right_21 : decode cX6_right 21 = .ok (.iload_n 3, 1) := by decide +kernel
theorem dX6_right_22 : decode cX6_right 22 = .ok (.ishr, 1) := by decide +kernel
theorem dX6_right_23 : decode cX6_right 23 = .ok (.iconst 1, 1) := by decide +kernel
theorem dX6_right_24 : decode cX6_right 24 = .ok (.iand, 1) := by decide +kernel
theorem dX6_right_25 : decode cX6_right 25 = .ok (.ifCond .eq 18, 3) := by decide +kernel
theorem dX6_right_43 : decode cX6_right 43 = .ok (.iinc 3 1, 3) := by decide +kernel
theorem dX6_right_46 : decode cX6_right 46 = .ok (.goto (-32), 3) := by decide +kernel
theorem dX6_right_28 : decode cX6_right 28 = .ok (.iload_n 0, 1) := by decide +kernel
theorem dX6_right_29 : decode cX6_right 29 = .ok (.iload_n 3, 1) := by decide +kernel
theorem dX6_right_30 : decode cX6_right 30 = .ok (.iload_n 3, 1) := by decide +kernel
theorem dX6_right_31 : decode cX6_right 31 = .ok (.invokestatic 26, 3) := by decide +kernel
theorem qq_3_19 : Cond.code yX6_staysRising cX6_staysRising 3 (some .boolean) ∈ TB := mk_tb (ti_3 (List.mem_of_getElem? (i := 19) rfl)) rfl
theorem qq_3_206 : Cond.methodLink "WrongHole$Rows" 26 yX6_staysRising ∈ TB := mk_tb (ti_3 (List.mem_of_getElem? (i := 206) rfl)) rfl
theorem qq_3_18 : Cond.static yX6_staysRising ∈ TB := mk_tb (ti_3 (List.mem_of_getElem? (i := 18) rfl)) rfl
theorem dX6_right_34 : decode cX6_right 34 = .ok (.ifCond .eq 9, 3) := by decide +kernel
theorem dX6_right_37 : decode cX6_right 37 = .ok (.iload_n 2, 1) := by decide +kernel
theorem dX6_right_38 : decode cX6_right 38 = .ok (.iconst 1, 1) := by decide +kernel
theorem dX6_right_39 : decode cX6_right 39 = .ok (.iload_n 3, 1) := by decide +kernel
theorem dX6_right_40 : decode cX6_right 40 = .ok (.ishl, 1) := by decide +kernel
theorem dX6_right_41 : decode cX6_right 41 = .ok (.ior, 1) := by decide +kernel
theorem dX6_right_42 : decode cX6_right 42 = .ok (.istore_n 2, 1) := by decide +kernel
set_option maxHeartbeats 4000000 in
set_option maxRecDepth 100000 in
theorem c_Rows_right (l : Launch) (D : va_G) (cs : Nat → ClassId) (a : Int32)  : Met l yX6_right (Cond.code yX6_right cX6_right 4 (some .int) :: TB) (RM 2 0 0) (va_Pc [.int a] (PRR D cs [])) (QP (fun v => ∃ x : Int32, v = .int x)) 0 0 (fun _ => False) := by
  refine MER (y := yX6_right) (cc := cX6_right) (maxL := 4) (ret := (some .int)) (d := 2) (D := D) (cs := cs) (ws := []) (av := [.int a]) (Qc := QP (fun v => ∃ x : Int32, v = .int x)) (by decide) (Nat.le_of_ble_eq_true rfl) ?_
  intro p e s m below meth c ls H hHe hx hb hr hml hown hts hlocks hP hK hN hl
  obtain ⟨locs, hlc⟩ : ∃ z : List Loc, z = [] := ⟨_, rfl⟩
  rw [← hlc]
  have hown : s.vm.findClass "WrongHole$Rows" = some m.cls := hown
  have hT : ∀ w ∈ TB, w.before ([.int a] : List Value).toArray s = true := fun w h => hts w (List.mem_cons_of_mem _ h)
  have hl : lv_has ls 4 [(0, .int a)] := hl
  have hP : va_P D vwCl [] H := hP
  refine lv_iload_n hx hb dX6_right_0 rfl (lv_at hl 0 rfl) ?_
  have hPc := va_P.sub (ws' := []) hP [] rfl
  refine cl_P (W.runS (As := [.int a]) (rest := []) ⟨hx, hb, hml, hown, hts⟩ (c_Rows_in l D cs a) ⟨callB_of 1 hts (gd_C qq_2_230) rfl rfl rfl (hT _ qq_1_16) (hT _ qq_3_20) (by decide +kernel) (rm_R rfl rfl), (hT _ qq_2_229)⟩ (pq_S hPc hK hN) rfl rfl hl.1 rfl (lv_room (Nat.le_of_ble_eq_true rfl)) dX6_right_1 ⟨Nat.le_of_ble_eq_true rfl, Nat.le_of_ble_eq_true rfl⟩) (fun v9 hz_2 => ?_)
  obtain ⟨x_1, rfl, r_3⟩ := hz_2
  refine lv_iload_n hx hb dX6_right_4 rfl (lv_at hl 0 rfl) ?_
  have hPc := va_P.sub (ws' := []) hP [] rfl
  refine cl_P (W.runS (As := [.int a]) (rest := [.int x_1]) ⟨hx, hb, hml, hown, hts⟩ (c_Rows_held l D cs a) ⟨callB_of 1 hts (gd_C qq_3_0) rfl rfl rfl (hT _ qq_1_16) (hT _ qq_3_30) (by decide +kernel) (rm_R rfl rfl), (hT _ qq_2_239)⟩ (pq_S hPc hK hN) rfl rfl hl.1 rfl (lv_room (Nat.le_of_ble_eq_true rfl)) dX6_right_5 ⟨Nat.le_of_ble_eq_true rfl, Nat.le_of_ble_eq_true rfl⟩) (fun v9 hz_5 => ?_)
  obtain ⟨x_4, rfl, r_6⟩ := hz_5
  refine lv_iand hx hb dX6_right_8 ?_
  refine lv_topi (fun x_7 e_8 => ?_)
  have r_9 : Rg 0 255 x_7 := Rg.and e_8 r_6 (by decide)
  refine lv_istore_n (lv' := [(1, .int x_7), (0, .int a)]) hx hb dX6_right_9 rfl hl (by decide) rfl (fun ls hl => ?_)
  refine lv_iconst (v := 0) hx hb dX6_right_10 (by decide) ?_
  refine lv_istore_n (lv' := [(2, .int 0), (1, .int x_7), (0, .int a)]) hx hb dX6_right_11 rfl hl (by decide) rfl (fun ls hl => ?_)
  refine lv_iconst (v := 0) hx hb dX6_right_12 (by decide) ?_
  refine lv_istore_n (lv' := [(3, .int 0), (2, .int 0), (1, .int x_7), (0, .int a)]) hx hb dX6_right_13 rfl hl (by decide) rfl (fun ls hl => ?_)
  refine w_wh (σ := (Int32) × (Int32)) (fun x9 H locs ls => match x9 with | (v_33, v_34) => Rg 0 8 v_33 ∧ H = s.heap ∧ locs = [] ∧ va_P D vwCl [] H ∧ lv_has ls 4 [(3, .int v_33), (2, .int v_34), (1, .int x_7), (0, .int a)]) (fun x9 => match x9 with | (v_33, v_34) => (8 - Int32.toInt v_33).toNat) 14 ?_ (0, 0) H locs ls ⟨(Rg.wk (lo2 := 0) (hi2 := 8) (Rg.c (c := 0) (k := 0) rfl) (by decide)), hHe, hlc, hP, lv_sub hl [0, 1, 2, 3] rfl⟩
  rintro ⟨v_33, v_34⟩ H locs ls ⟨r_515, hHe, hlc, hP, hl⟩ ih_514
  refine lv_iload_n hx hb dX6_right_14 rfl (lv_at hl 0 rfl) ?_
  refine lv_bipush (v := 8) hx hb dX6_right_15 (by decide) ?_
  refine lv_icmp_ge (tgt := 49) hx hb dX6_right_17 (by decide) (fun c_516 => ?_) (fun c_516 => ?_)
  · have r_517 : Rg 8 8 v_33 := Rg.le_r c_516 (Rg.c (c := 8) (k := 8) rfl) r_515 (by decide)
    refine lv_iload_n hx hb dX6_right_49 rfl (lv_at hl 1 rfl) ?_
    exact W.iret (v := v_34) hx hb hr (fun t9 ht9 hW9 => ⟨⟨_, rfl, _, rfl⟩, ht9.trans hHe⟩) (fun _ h9 => by rw [hlc] at h9; exact absurd h9 List.not_mem_nil) dX6_right_50
  · have r_518 : Rg 0 7 v_33 := Rg.lt_l (nle_lt c_516) r_515 (Rg.c (c := 8) (k := 8) rfl) (by decide)
    refine lv_iload_n hx hb dX6_right_20 rfl (lv_at hl 2 rfl) ?_
    refine lv_iload_n hx hb dX6_right_21 rfl (lv_at hl 0 rfl) ?_
    refine lv_ishr hx hb dX6_right_22 ?_
    refine lv_topi (fun x_554 e_555 => ?_)
    have r_556 : Rg 0 255 x_554 := Rg.shrn e_555 r_9
    refine lv_iconst (v := 1) hx hb dX6_right_23 (by decide) ?_
    refine lv_iand hx hb dX6_right_24 ?_
    refine lv_topi (fun x_557 e_558 => ?_)
    have r_559 : Rg 0 1 x_557 := Rg.and e_558 (Rg.c (c := 1) (k := 1) rfl) (by decide)
    refine w_cut (σ := (Int32)) (fun (v_574 : Int32) H locs ls => H = s.heap ∧ locs = [] ∧ va_P D vwCl [] H ∧ lv_has ls 4 [(3, .int v_33), (2, .int v_574), (1, .int x_7), (0, .int a)]) 43 (fun (v_574 : Int32) => []) ?_ (fun hj_575 => ?_)
    · rintro v_574 H locs ls ⟨hHe, hlc, hP, hl⟩
      obtain ⟨x_576, e_577⟩ : ∃ z : Int32, z = v_33 + Int32.ofInt 1 := ⟨_, rfl⟩
      have r_578 : Rg 1 8 x_576 := Rg.add e_577 r_518 (Rg.c (c := Int32.ofInt 1) (k := 1) rfl) (by decide)
      refine lv_iinc (v := x_576) (lv' := [(3, .int x_576), (2, .int v_574), (1, .int x_7), (0, .int a)]) hx hb dX6_right_43 hl (k := 0) rfl (e_577.symm) (by decide) rfl (fun ls hl => ?_)
      refine lv_goto (tgt := 14) hx hb dX6_right_46 (by decide) ?_
      exact ih_514 (x_576, v_574) _ _ _ ⟨(Rg.wk (lo2 := 0) (hi2 := 8) r_578 (by decide)), hHe, hlc, hP, lv_sub hl [0, 1, 2, 3] rfl⟩ (ms_up e_577 r_518 (Rg.c (c := Int32.ofInt 1) (k := 1) rfl) (by decide))
    · refine lv_if_eq (tgt := 43) hx hb dX6_right_25 (by decide) (fun c_560 => ?_) (fun c_560 => ?_)
      · have r_561 : Rg 0 0 x_557 := Rg.eq_l c_560 r_559 (Rg.c (c := 0) (k := 0) rfl) (by decide)
        exact hj_575 v_34 _ _ _ ⟨hHe, hlc, hP, lv_sub hl [0, 1, 2, 3] rfl⟩
      · have r_562 : Rg 1 1 x_557 := Rg.ne c_560 r_559 (Rg.c (c := 0) (k := 0) rfl) (by decide)
        refine lv_iload_n hx hb dX6_right_28 rfl (lv_at hl 3 rfl) ?_
        refine lv_iload_n hx hb dX6_right_29 rfl (lv_at hl 0 rfl) ?_
        refine lv_iload_n hx hb dX6_right_30 rfl (lv_at hl 0 rfl) ?_
        have hPc := va_P.sub (ws' := []) hP [] rfl
        refine cl_P (W.runS (As := [.int a, .int v_33, .int v_33]) (rest := []) ⟨hx, hb, hml, hown, hts⟩ (c_Rows_staysRising l D cs a v_33 v_33) ⟨callB_of 3 hts (gd_C qq_3_19) rfl rfl rfl (hT _ qq_1_16) (hT _ qq_3_206) (by decide +kernel) (rm_R rfl rfl), (hT _ qq_3_18)⟩ (pq_S hPc hK hN) rfl rfl hl.1 rfl (lv_room (Nat.le_of_ble_eq_true rfl)) dX6_right_31 ⟨Nat.le_of_ble_eq_true rfl, Nat.le_of_ble_eq_true rfl⟩) (fun v9 hz_580 => ?_)
        obtain ⟨x_579, rfl, r_581⟩ := hz_580
        refine lv_if_eq (tgt := 43) hx hb dX6_right_34 (by decide) (fun c_582 => ?_) (fun c_582 => ?_)
        · have r_583 : Rg 0 0 x_579 := Rg.eq_l c_582 r_581 (Rg.c (c := 0) (k := 0) rfl) (by decide)
          exact hj_575 v_34 _ _ _ ⟨hHe, hlc, hP, lv_sub hl [0, 1, 2, 3] rfl⟩
        · have r_584 : Rg 1 1 x_579 := Rg.ne c_582 r_581 (Rg.c (c := 0) (k := 0) rfl) (by decide)
          refine lv_iload_n hx hb dX6_right_37 rfl (lv_at hl 1 rfl) ?_
          refine lv_iconst (v := 1) hx hb dX6_right_38 (by decide) ?_
          refine lv_iload_n hx hb dX6_right_39 rfl (lv_at hl 0 rfl) ?_
          refine lv_ishl hx hb dX6_right_40 ?_
          refine lv_topi (fun x_585 e_586 => ?_)
          have r_587 : Rg 0 128 x_585 := Rg.shl (ha := 1) (k := 7) e_586 (Rg.wk (Rg.c (c := 1) (k := 1) rfl) (by decide)) (Rg.wk r_518 (by decide)) (by decide) (by decide)
          refine lv_ior hx hb dX6_right_41 ?_
          refine lv_topi (fun x_588 e_589 => ?_)
          refine lv_istore_n (lv' := [(2, .int x_588), (3, .int v_33), (1, .int x_7), (0, .int a)]) hx hb dX6_right_42 rfl hl (by decide) rfl (fun ls hl => ?_)
          exact hj_575 x_588 _ _ _ ⟨hHe, hlc, hP, lv_sub hl [1, 0, 2, 3] rfl⟩
theorem dX6_wrong_0 : decode cX6_wrong 0 = .ok (.iload_n 0, 1) := by decide +kernel
theorem dX6_wrong_1 : decode cX6_wrong 1 = .ok (.invokestatic 9, 3) := by decide +kernel
theorem dX6_wrong_4 : decode cX6_wrong 4 = .ok (.iload_n 0, 1) := by decide +kernel
theorem dX6_wrong_5 : decode cX6_wrong 5 = .ok (.invokestatic 30, 3) := by decide +kernel
theorem qq_3_205 : Cond.code yX6_right cX6_right 4 (some .int) ∈ TB := mk_tb (ti_3 (List.mem_of_getElem? (i := 205) rfl)) rfl
theorem qq_3_203 : Cond.methodLink "WrongHole$Rows" 30 yX6_right ∈ TB := mk_tb (ti_3 (List.mem_of_getElem? (i := 203) rfl)) rfl
theorem qq_3_204 : Cond.static yX6_right ∈ TB := mk_tb (ti_3 (List.mem_of_getElem? (i := 204) rfl)) rfl
theorem dX6_wrong_8 : decode cX6_wrong 8 = .ok (.iconst (-1), 1) := by decide +kernel
theorem dX6_wrong_9 : decode cX6_wrong 9 = .ok (.ixor, 1) := by decide +kernel
theorem dX6_wrong_10 : decode cX6_wrong 10 = .ok (.iand, 1) := by decide +kernel
theorem dX6_wrong_11 : decode cX6_wrong 11 = .ok (.ireturn, 1) := by decide +kernel
set_option maxHeartbeats 4000000 in
set_option maxRecDepth 100000 in
theorem c_Rows_wrong (l : Launch) (D : va_G) (cs : Nat → ClassId) (a : Int32)  : Met l yX6_wrong (Cond.code yX6_wrong cX6_wrong 1 (some .int) :: TB) (RM 3 0 0) (va_Pc [.int a] (PRR D cs [])) (QP (fun v => ∃ x : Int32, v = .int x ∧ Rg 0 255 x)) 0 0 (fun _ => False) := by
  refine MER (y := yX6_wrong) (cc := cX6_wrong) (maxL := 1) (ret := (some .int)) (d := 3) (D := D) (cs := cs) (ws := []) (av := [.int a]) (Qc := QP (fun v => ∃ x : Int32, v = .int x ∧ Rg 0 255 x)) (by decide) (Nat.le_of_ble_eq_true rfl) ?_
  intro p e s m below meth c ls H hHe hx hb hr hml hown hts hlocks hP hK hN hl
  obtain ⟨locs, hlc⟩ : ∃ z : List Loc, z = [] := ⟨_, rfl⟩
  rw [← hlc]
  have hown : s.vm.findClass "WrongHole$Rows" = some m.cls := hown
  have hT : ∀ w ∈ TB, w.before ([.int a] : List Value).toArray s = true := fun w h => hts w (List.mem_cons_of_mem _ h)
  have hl : lv_has ls 1 [(0, .int a)] := hl
  have hP : va_P D vwCl [] H := hP
  refine lv_iload_n hx hb dX6_wrong_0 rfl (lv_at hl 0 rfl) ?_
  have hPc := va_P.sub (ws' := []) hP [] rfl
  refine cl_P (W.runS (As := [.int a]) (rest := []) ⟨hx, hb, hml, hown, hts⟩ (c_Rows_in l D cs a) ⟨callB_of 1 hts (gd_C qq_2_230) rfl rfl rfl (hT _ qq_1_16) (hT _ qq_3_20) (by decide +kernel) (rm_R rfl rfl), (hT _ qq_2_229)⟩ (pq_S hPc hK hN) rfl rfl hl.1 rfl (lv_room (Nat.le_of_ble_eq_true rfl)) dX6_wrong_1 ⟨Nat.le_of_ble_eq_true rfl, Nat.le_of_ble_eq_true rfl⟩) (fun v9 hz_2 => ?_)
  obtain ⟨x_1, rfl, r_3⟩ := hz_2
  refine lv_iload_n hx hb dX6_wrong_4 rfl (lv_at hl 0 rfl) ?_
  have hPc := va_P.sub (ws' := []) hP [] rfl
  refine cl_P (W.runS (As := [.int a]) (rest := [.int x_1]) ⟨hx, hb, hml, hown, hts⟩ (c_Rows_right l D cs a) ⟨callB_of 1 hts (gd_C qq_3_205) rfl rfl rfl (hT _ qq_1_16) (hT _ qq_3_203) (by decide +kernel) (rm_R rfl rfl), (hT _ qq_3_204)⟩ (pq_S hPc hK hN) rfl rfl hl.1 rfl (lv_room (Nat.le_of_ble_eq_true rfl)) dX6_wrong_5 ⟨Nat.le_of_ble_eq_true rfl, Nat.le_of_ble_eq_true rfl⟩) (fun v9 hz_5 => ?_)
  obtain ⟨x_4, rfl⟩ := hz_5
  refine lv_iconst (v := (-1)) hx hb dX6_wrong_8 (by decide) ?_
  refine lv_ixor hx hb dX6_wrong_9 ?_
  refine lv_topi (fun x_7 e_8 => ?_)
  refine lv_iand hx hb dX6_wrong_10 ?_
  refine lv_topi (fun x_9 e_10 => ?_)
  have r_11 : Rg 0 255 x_9 := Rg.andl e_10 r_3 (by decide)
  exact W.iret (v := x_9) hx hb hr (fun t9 ht9 hW9 => ⟨⟨_, rfl, _, rfl, r_11⟩, ht9.trans hHe⟩) (fun _ h9 => by rw [hlc] at h9; exact absurd h9 List.not_mem_nil) dX6_wrong_11
theorem dX6_placeOf_0 : decode cX6_placeOf 0 = .ok (.iconst 0, 1) := by decide +kernel
theorem dX6_placeOf_1 : decode cX6_placeOf 1 = .ok (.istore_n 2, 1) := by decide +kernel
theorem dX6_placeOf_2 : decode cX6_placeOf 2 = .ok (.iload_n 2, 1) := by decide +kernel
theorem dX6_placeOf_3 : decode cX6_placeOf 3 = .ok (.bipush 8, 2) := by decide +kernel
theorem dX6_placeOf_5 : decode cX6_placeOf 5 = .ok (.if_icmp .ge 32, 3) := by decide +kernel
theorem dX6_placeOf_37 : decode cX6_placeOf 37 = .ok (.iconst (-1), 1) := by decide +kernel
theorem dX6_placeOf_38 : decode cX6_placeOf 38 = .ok (.ireturn, 1) := by decide +kernel
theorem dX6_placeOf_8 : decode cX6_placeOf 8 = .ok (.iload_n 0, 1) := by decide +kernel
theorem dX6_placeOf_9 : decode cX6_placeOf 9 = .ok (.iload_n 2, 1) := by decide +kernel
theorem dX6_placeOf_10 : decode cX6_placeOf 10 = .ok (.ishr, 1) := by decide +kernel
theorem dX6_placeOf_11 : decode cX6_placeOf 11 = .ok (.iconst 1, 1) := by decide +kernel
theorem dX6_placeOf_12 : decode cX6_placeOf 12 = .ok (.iand, 1) := by decide +kernel
theorem dX6_placeOf_13 : decode cX6_placeOf 13 = .ok (.ifCond .eq 18, 3) := by decide +kernel
theorem dX6_placeOf_31 : decode cX6_placeOf 31 = .ok (.iinc 2 1, 3) := by decide +kernel
theorem dX6_placeOf_34 : decode cX6_placeOf 34 = .ok (.goto (-32), 3) := by decide +kernel
theorem dX6_placeOf_16 : decode cX6_placeOf 16 = .ok (.iload_n 0, 1) := by decide +kernel
theorem dX6_placeOf_17 : decode cX6_placeOf 17 = .ok (.iload_n 2, 1) := by decide +kernel
theorem dX6_placeOf_18 : decode cX6_placeOf 18 = .ok (.invokestatic 15, 3) := by decide +kernel
theorem dX6_placeOf_21 : decode cX6_placeOf 21 = .ok (.iand, 1) := by decide +kernel
theorem dX6_placeOf_22 : decode cX6_placeOf 22 = .ok (.invokestatic 18, 3) := by decide +kernel
theorem dX6_placeOf_25 : decode cX6_placeOf 25 = .ok (.iload_n 1, 1) := by decide +kernel
theorem dX6_placeOf_26 : decode cX6_placeOf 26 = .ok (.if_icmp .ne 5, 3) := by decide +kernel
theorem dX6_placeOf_29 : decode cX6_placeOf 29 = .ok (.iload_n 2, 1) := by decide +kernel
theorem dX6_placeOf_30 : decode cX6_placeOf 30 = .ok (.ireturn, 1) := by decide +kernel
set_option maxHeartbeats 4000000 in
set_option maxRecDepth 100000 in
theorem c_Rows_placeOf (l : Launch) (D : va_G) (cs : Nat → ClassId) (a : Int32) (b : Int32)  : Met l yX6_placeOf (Cond.code yX6_placeOf cX6_placeOf 3 (some .int) :: TB) (RM 1 0 0) (va_Pc [.int a, .int b] (PRR D cs [])) (QP (fun v => ∃ x : Int32, v = .int x ∧ Rg (-1) 7 x)) 0 0 (fun _ => False) := by
  refine MER (y := yX6_placeOf) (cc := cX6_placeOf) (maxL := 3) (ret := (some .int)) (d := 1) (D := D) (cs := cs) (ws := []) (av := [.int a, .int b]) (Qc := QP (fun v => ∃ x : Int32, v = .int x ∧ Rg (-1) 7 x)) (by decide) (Nat.le_of_ble_eq_true rfl) ?_
  intro p e s m below meth c ls H hHe hx hb hr hml hown hts hlocks hP hK hN hl
  obtain ⟨locs, hlc⟩ : ∃ z : List Loc, z = [] := ⟨_, rfl⟩
  rw [← hlc]
  have hown : s.vm.findClass "WrongHole$Rows" = some m.cls := hown
  have hT : ∀ w ∈ TB, w.before ([.int a, .int b] : List Value).toArray s = true := fun w h => hts w (List.mem_cons_of_mem _ h)
  have hl : lv_has ls 3 [(0, .int a), (1, .int b)] := hl
  have hP : va_P D vwCl [] H := hP
  refine lv_iconst (v := 0) hx hb dX6_placeOf_0 (by decide) ?_
  refine lv_istore_n (lv' := [(2, .int 0), (0, .int a), (1, .int b)]) hx hb dX6_placeOf_1 rfl hl (by decide) rfl (fun ls hl => ?_)
  refine w_wh (σ := (Int32)) (fun (v_20 : Int32) H locs ls => Rg 0 8 v_20 ∧ H = s.heap ∧ locs = [] ∧ va_P D vwCl [] H ∧ lv_has ls 3 [(2, .int v_20), (0, .int a), (1, .int b)]) (fun (v_20 : Int32) => (8 - Int32.toInt v_20).toNat) 2 ?_ 0 H locs ls ⟨(Rg.wk (lo2 := 0) (hi2 := 8) (Rg.c (c := 0) (k := 0) rfl) (by decide)), hHe, hlc, hP, lv_sub hl [0, 1, 2] rfl⟩
  rintro v_20 H locs ls ⟨r_205, hHe, hlc, hP, hl⟩ ih_204
  refine lv_iload_n hx hb dX6_placeOf_2 rfl (lv_at hl 0 rfl) ?_
  refine lv_bipush (v := 8) hx hb dX6_placeOf_3 (by decide) ?_
  refine lv_icmp_ge (tgt := 37) hx hb dX6_placeOf_5 (by decide) (fun c_206 => ?_) (fun c_206 => ?_)
  · have r_207 : Rg 8 8 v_20 := Rg.le_r c_206 (Rg.c (c := 8) (k := 8) rfl) r_205 (by decide)
    refine lv_iconst (v := (-1)) hx hb dX6_placeOf_37 (by decide) ?_
    exact W.iret (v := (-1)) hx hb hr (fun t9 ht9 hW9 => ⟨⟨_, rfl, _, rfl, (Rg.wk (lo2 := (-1)) (hi2 := 7) (Rg.c (c := (-1)) (k := (-1)) rfl) (by decide))⟩, ht9.trans hHe⟩) (fun _ h9 => by rw [hlc] at h9; exact absurd h9 List.not_mem_nil) dX6_placeOf_38
  · have r_208 : Rg 0 7 v_20 := Rg.lt_l (nle_lt c_206) r_205 (Rg.c (c := 8) (k := 8) rfl) (by decide)
    refine lv_iload_n hx hb dX6_placeOf_8 rfl (lv_at hl 1 rfl) ?_
    refine lv_iload_n hx hb dX6_placeOf_9 rfl (lv_at hl 0 rfl) ?_
    refine lv_ishr hx hb dX6_placeOf_10 ?_
    refine lv_topi (fun x_209 e_210 => ?_)
    refine lv_iconst (v := 1) hx hb dX6_placeOf_11 (by decide) ?_
    refine lv_iand hx hb dX6_placeOf_12 ?_
    refine lv_topi (fun x_211 e_212 => ?_)
    have r_213 : Rg 0 1 x_211 := Rg.and e_212 (Rg.c (c := 1) (k := 1) rfl) (by decide)
    refine lv_if_eq (tgt := 31) hx hb dX6_placeOf_13 (by decide) (fun c_214 => ?_) (fun c_214 => ?_)
    · have r_215 : Rg 0 0 x_211 := Rg.eq_l c_214 r_213 (Rg.c (c := 0) (k := 0) rfl) (by decide)
      obtain ⟨x_217, e_218⟩ : ∃ z : Int32, z = v_20 + Int32.ofInt 1 := ⟨_, rfl⟩
      have r_219 : Rg 1 8 x_217 := Rg.add e_218 r_208 (Rg.c (c := Int32.ofInt 1) (k := 1) rfl) (by decide)
      refine lv_iinc (v := x_217) (lv' := [(2, .int x_217), (0, .int a), (1, .int b)]) hx hb dX6_placeOf_31 hl (k := 0) rfl (e_218.symm) (by decide) rfl (fun ls hl => ?_)
      refine lv_goto (tgt := 2) hx hb dX6_placeOf_34 (by decide) ?_
      exact ih_204 x_217 _ _ _ ⟨(Rg.wk (lo2 := 0) (hi2 := 8) r_219 (by decide)), hHe, hlc, hP, lv_sub hl [0, 1, 2] rfl⟩ (ms_up e_218 r_208 (Rg.c (c := Int32.ofInt 1) (k := 1) rfl) (by decide))
    · have r_216 : Rg 1 1 x_211 := Rg.ne c_214 r_213 (Rg.c (c := 0) (k := 0) rfl) (by decide)
      refine lv_iload_n hx hb dX6_placeOf_16 rfl (lv_at hl 1 rfl) ?_
      refine lv_iload_n hx hb dX6_placeOf_17 rfl (lv_at hl 0 rfl) ?_
      have hPc := va_P.sub (ws' := []) hP [] rfl
      refine cl_P (W.runS (As := [.int v_20]) (rest := [.int a]) ⟨hx, hb, hml, hown, hts⟩ (c_Rows_below l D cs v_20) ⟨callB_of 1 hts (gd_C qq_3_23) rfl rfl rfl (hT _ qq_1_16) (hT _ qq_3_21) (by decide +kernel) (rm_R rfl rfl), (hT _ qq_3_22)⟩ (pq_S hPc hK hN) rfl rfl hl.1 rfl (lv_room (Nat.le_of_ble_eq_true rfl)) dX6_placeOf_18 ⟨Nat.le_of_ble_eq_true rfl, Nat.le_of_ble_eq_true rfl⟩) (fun v9 hz_221 => ?_)
      obtain ⟨x_220, rfl⟩ := hz_221
      refine lv_iand hx hb dX6_placeOf_21 ?_
      refine lv_topi (fun x_223 e_224 => ?_)
      have hPc := va_P.sub (ws' := []) hP [] rfl
      refine cl_P (W.runS (As := [.int x_223]) (rest := []) ⟨hx, hb, hml, hown, hts⟩ (c_bitCount l D cs x_223) ⟨callB_of 1 hts (gd_C qq_3_26) rfl rfl rfl (hT _ qq_1_17) (hT _ qq_3_24) (by decide +kernel) (rm_R rfl rfl), (hT _ qq_3_25)⟩ (pq_S hPc hK hN) rfl rfl hl.1 rfl (lv_room (Nat.le_of_ble_eq_true rfl)) dX6_placeOf_22 ⟨Nat.le_of_ble_eq_true rfl, Nat.le_of_ble_eq_true rfl⟩) (fun v9 hz_226 => ?_)
      obtain ⟨x_225, rfl, r_227⟩ := hz_226
      refine lv_iload_n hx hb dX6_placeOf_25 rfl (lv_at hl 2 rfl) ?_
      refine lv_icmp_ne (tgt := 31) hx hb dX6_placeOf_26 (by decide) (fun c_228 => ?_) (fun c_228 => ?_)
      · obtain ⟨x_230, e_231⟩ : ∃ z : Int32, z = v_20 + Int32.ofInt 1 := ⟨_, rfl⟩
        have r_232 : Rg 1 8 x_230 := Rg.add e_231 r_208 (Rg.c (c := Int32.ofInt 1) (k := 1) rfl) (by decide)
        refine lv_iinc (v := x_230) (lv' := [(2, .int x_230), (0, .int a), (1, .int b)]) hx hb dX6_placeOf_31 hl (k := 0) rfl (e_231.symm) (by decide) rfl (fun ls hl => ?_)
        refine lv_goto (tgt := 2) hx hb dX6_placeOf_34 (by decide) ?_
        exact ih_204 x_230 _ _ _ ⟨(Rg.wk (lo2 := 0) (hi2 := 8) r_232 (by decide)), hHe, hlc, hP, lv_sub hl [0, 1, 2] rfl⟩ (ms_up e_231 r_208 (Rg.c (c := Int32.ofInt 1) (k := 1) rfl) (by decide))
      · have r_229 : Rg 0 63 b := Rg.eq_l (Eq.symm c_228) (Rg.top b) r_227 (by decide)
        refine lv_iload_n hx hb dX6_placeOf_29 rfl (lv_at hl 0 rfl) ?_
        exact W.iret (v := v_20) hx hb hr (fun t9 ht9 hW9 => ⟨⟨_, rfl, _, rfl, (Rg.wk (lo2 := (-1)) (hi2 := 7) r_208 (by decide))⟩, ht9.trans hHe⟩) (fun _ h9 => by rw [hlc] at h9; exact absurd h9 List.not_mem_nil) dX6_placeOf_30
theorem dX6_holeOf_0 : decode cX6_holeOf 0 = .ok (.iload_n 0, 1) := by decide +kernel
theorem dX6_holeOf_1 : decode cX6_holeOf 1 = .ok (.invokestatic 9, 3) := by decide +kernel
theorem dX6_holeOf_4 : decode cX6_holeOf 4 = .ok (.iload_n 1, 1) := by decide +kernel
theorem dX6_holeOf_5 : decode cX6_holeOf 5 = .ok (.ishr, 1) := by decide +kernel
theorem dX6_holeOf_6 : decode cX6_holeOf 6 = .ok (.iconst 1, 1) := by decide +kernel
theorem dX6_holeOf_7 : decode cX6_holeOf 7 = .ok (.iand, 1) := by decide +kernel
theorem dX6_holeOf_8 : decode cX6_holeOf 8 = .ok (.ifCond .ne 5, 3) := by decide +kernel
theorem dX6_holeOf_13 : decode cX6_holeOf 13 = .ok (.iload_n 0, 1) := by decide +kernel
theorem dX6_holeOf_14 : decode cX6_holeOf 14 = .ok (.invokestatic 23, 3) := by decide +kernel
theorem dX6_holeOf_17 : decode cX6_holeOf 17 = .ok (.iload_n 0, 1) := by decide +kernel
theorem dX6_holeOf_18 : decode cX6_holeOf 18 = .ok (.invokestatic 9, 3) := by decide +kernel
theorem dX6_holeOf_21 : decode cX6_holeOf 21 = .ok (.iload_n 1, 1) := by decide +kernel
theorem dX6_holeOf_22 : decode cX6_holeOf 22 = .ok (.invokestatic 15, 3) := by decide +kernel
theorem dX6_holeOf_25 : decode cX6_holeOf 25 = .ok (.iand, 1) := by decide +kernel
theorem dX6_holeOf_26 : decode cX6_holeOf 26 = .ok (.invokestatic 18, 3) := by decide +kernel
theorem dX6_holeOf_29 : decode cX6_holeOf 29 = .ok (.invokestatic 33, 3) := by decide +kernel
theorem qq_3_170 : Cond.code yX6_placeOf cX6_placeOf 3 (some .int) ∈ TB := mk_tb (ti_3 (List.mem_of_getElem? (i := 170) rfl)) rfl
theorem qq_3_168 : Cond.methodLink "WrongHole$Rows" 33 yX6_placeOf ∈ TB := mk_tb (ti_3 (List.mem_of_getElem? (i := 168) rfl)) rfl
theorem qq_3_169 : Cond.static yX6_placeOf ∈ TB := mk_tb (ti_3 (List.mem_of_getElem? (i := 169) rfl)) rfl
theorem dX6_holeOf_32 : decode cX6_holeOf 32 = .ok (.ireturn, 1) := by decide +kernel
theorem dX6_holeOf_11 : decode cX6_holeOf 11 = .ok (.iconst (-1), 1) := by decide +kernel
theorem dX6_holeOf_12 : decode cX6_holeOf 12 = .ok (.ireturn, 1) := by decide +kernel
set_option maxHeartbeats 4000000 in
set_option maxRecDepth 100000 in
theorem c_Rows_holeOf (l : Launch) (D : va_G) (cs : Nat → ClassId) (a : Int32) (b : Int32)  : Met l yX6_holeOf (Cond.code yX6_holeOf cX6_holeOf 2 (some .int) :: TB) (RM 2 0 0) (va_Pc [.int a, .int b] (PRR D cs [])) (QP (fun v => ∃ x : Int32, v = .int x ∧ Rg (-1) 7 x)) 0 0 (fun _ => False) := by
  refine MER (y := yX6_holeOf) (cc := cX6_holeOf) (maxL := 2) (ret := (some .int)) (d := 2) (D := D) (cs := cs) (ws := []) (av := [.int a, .int b]) (Qc := QP (fun v => ∃ x : Int32, v = .int x ∧ Rg (-1) 7 x)) (by decide) (Nat.le_of_ble_eq_true rfl) ?_
  intro p e s m below meth c ls H hHe hx hb hr hml hown hts hlocks hP hK hN hl
  obtain ⟨locs, hlc⟩ : ∃ z : List Loc, z = [] := ⟨_, rfl⟩
  rw [← hlc]
  have hown : s.vm.findClass "WrongHole$Rows" = some m.cls := hown
  have hT : ∀ w ∈ TB, w.before ([.int a, .int b] : List Value).toArray s = true := fun w h => hts w (List.mem_cons_of_mem _ h)
  have hl : lv_has ls 2 [(0, .int a), (1, .int b)] := hl
  have hP : va_P D vwCl [] H := hP
  refine lv_iload_n hx hb dX6_holeOf_0 rfl (lv_at hl 0 rfl) ?_
  have hPc := va_P.sub (ws' := []) hP [] rfl
  refine cl_P (W.runS (As := [.int a]) (rest := []) ⟨hx, hb, hml, hown, hts⟩ (c_Rows_in l D cs a) ⟨callB_of 1 hts (gd_C qq_2_230) rfl rfl rfl (hT _ qq_1_16) (hT _ qq_3_20) (by decide +kernel) (rm_R rfl rfl), (hT _ qq_2_229)⟩ (pq_S hPc hK hN) rfl rfl hl.1 rfl (lv_room (Nat.le_of_ble_eq_true rfl)) dX6_holeOf_1 ⟨Nat.le_of_ble_eq_true rfl, Nat.le_of_ble_eq_true rfl⟩) (fun v9 hz_2 => ?_)
  obtain ⟨x_1, rfl, r_3⟩ := hz_2
  refine lv_iload_n hx hb dX6_holeOf_4 rfl (lv_at hl 1 rfl) ?_
  refine lv_ishr hx hb dX6_holeOf_5 ?_
  refine lv_topi (fun x_4 e_5 => ?_)
  have r_6 : Rg 0 255 x_4 := Rg.shrn e_5 r_3
  refine lv_iconst (v := 1) hx hb dX6_holeOf_6 (by decide) ?_
  refine lv_iand hx hb dX6_holeOf_7 ?_
  refine lv_topi (fun x_7 e_8 => ?_)
  have r_9 : Rg 0 1 x_7 := Rg.and e_8 (Rg.c (c := 1) (k := 1) rfl) (by decide)
  refine lv_if_ne (tgt := 13) hx hb dX6_holeOf_8 (by decide) (fun c_10 => ?_) (fun c_10 => ?_)
  · have r_11 : Rg 1 1 x_7 := Rg.ne c_10 r_9 (Rg.c (c := 0) (k := 0) rfl) (by decide)
    refine lv_iload_n hx hb dX6_holeOf_13 rfl (lv_at hl 0 rfl) ?_
    have hPc := va_P.sub (ws' := []) hP [] rfl
    refine cl_P (W.runS (As := [.int a]) (rest := []) ⟨hx, hb, hml, hown, hts⟩ (c_Rows_held l D cs a) ⟨callB_of 1 hts (gd_C qq_3_0) rfl rfl rfl (hT _ qq_1_16) (hT _ qq_3_30) (by decide +kernel) (rm_R rfl rfl), (hT _ qq_2_239)⟩ (pq_S hPc hK hN) rfl rfl hl.1 rfl (lv_room (Nat.le_of_ble_eq_true rfl)) dX6_holeOf_14 ⟨Nat.le_of_ble_eq_true rfl, Nat.le_of_ble_eq_true rfl⟩) (fun v9 hz_14 => ?_)
    obtain ⟨x_13, rfl, r_15⟩ := hz_14
    refine lv_iload_n hx hb dX6_holeOf_17 rfl (lv_at hl 0 rfl) ?_
    have hPc := va_P.sub (ws' := []) hP [] rfl
    refine cl_P (W.runS (As := [.int a]) (rest := [.int x_13]) ⟨hx, hb, hml, hown, hts⟩ (c_Rows_in l D cs a) ⟨callB_of 1 hts (gd_C qq_2_230) rfl rfl rfl (hT _ qq_1_16) (hT _ qq_3_20) (by decide +kernel) (rm_R rfl rfl), (hT _ qq_2_229)⟩ (pq_S hPc hK hN) rfl rfl hl.1 rfl (lv_room (Nat.le_of_ble_eq_true rfl)) dX6_holeOf_18 ⟨Nat.le_of_ble_eq_true rfl, Nat.le_of_ble_eq_true rfl⟩) (fun v9 hz_17 => ?_)
    obtain ⟨x_16, rfl, r_18⟩ := hz_17
    refine lv_iload_n hx hb dX6_holeOf_21 rfl (lv_at hl 1 rfl) ?_
    have hPc := va_P.sub (ws' := []) hP [] rfl
    refine cl_P (W.runS (As := [.int b]) (rest := [.int x_16, .int x_13]) ⟨hx, hb, hml, hown, hts⟩ (c_Rows_below l D cs b) ⟨callB_of 1 hts (gd_C qq_3_23) rfl rfl rfl (hT _ qq_1_16) (hT _ qq_3_21) (by decide +kernel) (rm_R rfl rfl), (hT _ qq_3_22)⟩ (pq_S hPc hK hN) rfl rfl hl.1 rfl (lv_room (Nat.le_of_ble_eq_true rfl)) dX6_holeOf_22 ⟨Nat.le_of_ble_eq_true rfl, Nat.le_of_ble_eq_true rfl⟩) (fun v9 hz_20 => ?_)
    obtain ⟨x_19, rfl⟩ := hz_20
    refine lv_iand hx hb dX6_holeOf_25 ?_
    refine lv_topi (fun x_22 e_23 => ?_)
    have r_24 : Rg 0 255 x_22 := Rg.andl e_23 r_18 (by decide)
    have hPc := va_P.sub (ws' := []) hP [] rfl
    refine cl_P (W.runS (As := [.int x_22]) (rest := [.int x_13]) ⟨hx, hb, hml, hown, hts⟩ (c_bitCount l D cs x_22) ⟨callB_of 1 hts (gd_C qq_3_26) rfl rfl rfl (hT _ qq_1_17) (hT _ qq_3_24) (by decide +kernel) (rm_R rfl rfl), (hT _ qq_3_25)⟩ (pq_S hPc hK hN) rfl rfl hl.1 rfl (lv_room (Nat.le_of_ble_eq_true rfl)) dX6_holeOf_26 ⟨Nat.le_of_ble_eq_true rfl, Nat.le_of_ble_eq_true rfl⟩) (fun v9 hz_26 => ?_)
    obtain ⟨x_25, rfl, r_27⟩ := hz_26
    have hPc := va_P.sub (ws' := []) hP [] rfl
    refine cl_P (W.runS (As := [.int x_13, .int x_25]) (rest := []) ⟨hx, hb, hml, hown, hts⟩ (c_Rows_placeOf l D cs x_13 x_25) ⟨callB_of 2 hts (gd_C qq_3_170) rfl rfl rfl (hT _ qq_1_16) (hT _ qq_3_168) (by decide +kernel) (rm_R rfl rfl), (hT _ qq_3_169)⟩ (pq_S hPc hK hN) rfl rfl hl.1 rfl (lv_room (Nat.le_of_ble_eq_true rfl)) dX6_holeOf_29 ⟨Nat.le_of_ble_eq_true rfl, Nat.le_of_ble_eq_true rfl⟩) (fun v9 hz_29 => ?_)
    obtain ⟨x_28, rfl, r_30⟩ := hz_29
    exact W.iret (v := x_28) hx hb hr (fun t9 ht9 hW9 => ⟨⟨_, rfl, _, rfl, r_30⟩, ht9.trans hHe⟩) (fun _ h9 => by rw [hlc] at h9; exact absurd h9 List.not_mem_nil) dX6_holeOf_32
  · have r_12 : Rg 0 0 x_7 := Rg.eq_l c_10 r_9 (Rg.c (c := 0) (k := 0) rfl) (by decide)
    refine lv_iconst (v := (-1)) hx hb dX6_holeOf_11 (by decide) ?_
    exact W.iret (v := (-1)) hx hb hr (fun t9 ht9 hW9 => ⟨⟨_, rfl, _, rfl, (Rg.wk (lo2 := (-1)) (hi2 := 7) (Rg.c (c := (-1)) (k := (-1)) rfl) (by decide))⟩, ht9.trans hHe⟩) (fun _ h9 => by rw [hlc] at h9; exact absurd h9 List.not_mem_nil) dX6_holeOf_12
theorem dX6_buttonIn_0 : decode cX6_buttonIn 0 = .ok (.iload_n 0, 1) := by decide +kernel
theorem dX6_buttonIn_1 : decode cX6_buttonIn 1 = .ok (.invokestatic 23, 3) := by decide +kernel
theorem dX6_buttonIn_4 : decode cX6_buttonIn 4 = .ok (.iload_n 1, 1) := by decide +kernel
theorem dX6_buttonIn_5 : decode cX6_buttonIn 5 = .ok (.ishr, 1) := by decide +kernel
theorem dX6_buttonIn_6 : decode cX6_buttonIn 6 = .ok (.iconst 1, 1) := by decide +kernel
theorem dX6_buttonIn_7 : decode cX6_buttonIn 7 = .ok (.iand, 1) := by decide +kernel
theorem dX6_buttonIn_8 : decode cX6_buttonIn 8 = .ok (.ifCond .ne 5, 3) := by decide +kernel
theorem dX6_buttonIn_13 : decode cX6_buttonIn 13 = .ok (.iload_n 0, 1) := by decide +kernel
theorem dX6_buttonIn_14 : decode cX6_buttonIn 14 = .ok (.invokestatic 9, 3) := by decide +kernel
theorem dX6_buttonIn_17 : decode cX6_buttonIn 17 = .ok (.iload_n 0, 1) := by decide +kernel
theorem dX6_buttonIn_18 : decode cX6_buttonIn 18 = .ok (.invokestatic 23, 3) := by decide +kernel
theorem dX6_buttonIn_21 : decode cX6_buttonIn 21 = .ok (.iload_n 1, 1) := by decide +kernel
theorem dX6_buttonIn_22 : decode cX6_buttonIn 22 = .ok (.invokestatic 15, 3) := by decide +kernel
theorem dX6_buttonIn_25 : decode cX6_buttonIn 25 = .ok (.iand, 1) := by decide +kernel
theorem dX6_buttonIn_26 : decode cX6_buttonIn 26 = .ok (.invokestatic 18, 3) := by decide +kernel
theorem dX6_buttonIn_29 : decode cX6_buttonIn 29 = .ok (.invokestatic 33, 3) := by decide +kernel
theorem dX6_buttonIn_32 : decode cX6_buttonIn 32 = .ok (.ireturn, 1) := by decide +kernel
theorem dX6_buttonIn_11 : decode cX6_buttonIn 11 = .ok (.iconst (-1), 1) := by decide +kernel
theorem dX6_buttonIn_12 : decode cX6_buttonIn 12 = .ok (.ireturn, 1) := by decide +kernel
set_option maxHeartbeats 4000000 in
set_option maxRecDepth 100000 in
theorem c_Rows_buttonIn (l : Launch) (D : va_G) (cs : Nat → ClassId) (a : Int32) (b : Int32)  : Met l yX6_buttonIn (Cond.code yX6_buttonIn cX6_buttonIn 2 (some .int) :: TB) (RM 2 0 0) (va_Pc [.int a, .int b] (PRR D cs [])) (QP (fun v => ∃ x : Int32, v = .int x ∧ Rg (-1) 7 x)) 0 0 (fun _ => False) := by
  refine MER (y := yX6_buttonIn) (cc := cX6_buttonIn) (maxL := 2) (ret := (some .int)) (d := 2) (D := D) (cs := cs) (ws := []) (av := [.int a, .int b]) (Qc := QP (fun v => ∃ x : Int32, v = .int x ∧ Rg (-1) 7 x)) (by decide) (Nat.le_of_ble_eq_true rfl) ?_
  intro p e s m below meth c ls H hHe hx hb hr hml hown hts hlocks hP hK hN hl
  obtain ⟨locs, hlc⟩ : ∃ z : List Loc, z = [] := ⟨_, rfl⟩
  rw [← hlc]
  have hown : s.vm.findClass "WrongHole$Rows" = some m.cls := hown
  have hT : ∀ w ∈ TB, w.before ([.int a, .int b] : List Value).toArray s = true := fun w h => hts w (List.mem_cons_of_mem _ h)
  have hl : lv_has ls 2 [(0, .int a), (1, .int b)] := hl
  have hP : va_P D vwCl [] H := hP
  refine lv_iload_n hx hb dX6_buttonIn_0 rfl (lv_at hl 0 rfl) ?_
  have hPc := va_P.sub (ws' := []) hP [] rfl
  refine cl_P (W.runS (As := [.int a]) (rest := []) ⟨hx, hb, hml, hown, hts⟩ (c_Rows_held l D cs a) ⟨callB_of 1 hts (gd_C qq_3_0) rfl rfl rfl (hT _ qq_1_16) (hT _ qq_3_30) (by decide +kernel) (rm_R rfl rfl), (hT _ qq_2_239)⟩ (pq_S hPc hK hN) rfl rfl hl.1 rfl (lv_room (Nat.le_of_ble_eq_true rfl)) dX6_buttonIn_1 ⟨Nat.le_of_ble_eq_true rfl, Nat.le_of_ble_eq_true rfl⟩) (fun v9 hz_2 => ?_)
  obtain ⟨x_1, rfl, r_3⟩ := hz_2
  refine lv_iload_n hx hb dX6_buttonIn_4 rfl (lv_at hl 1 rfl) ?_
  refine lv_ishr hx hb dX6_buttonIn_5 ?_
  refine lv_topi (fun x_4 e_5 => ?_)
  have r_6 : Rg 0 255 x_4 := Rg.shrn e_5 r_3
  refine lv_iconst (v := 1) hx hb dX6_buttonIn_6 (by decide) ?_
  refine lv_iand hx hb dX6_buttonIn_7 ?_
  refine lv_topi (fun x_7 e_8 => ?_)
  have r_9 : Rg 0 1 x_7 := Rg.and e_8 (Rg.c (c := 1) (k := 1) rfl) (by decide)
  refine lv_if_ne (tgt := 13) hx hb dX6_buttonIn_8 (by decide) (fun c_10 => ?_) (fun c_10 => ?_)
  · have r_11 : Rg 1 1 x_7 := Rg.ne c_10 r_9 (Rg.c (c := 0) (k := 0) rfl) (by decide)
    refine lv_iload_n hx hb dX6_buttonIn_13 rfl (lv_at hl 0 rfl) ?_
    have hPc := va_P.sub (ws' := []) hP [] rfl
    refine cl_P (W.runS (As := [.int a]) (rest := []) ⟨hx, hb, hml, hown, hts⟩ (c_Rows_in l D cs a) ⟨callB_of 1 hts (gd_C qq_2_230) rfl rfl rfl (hT _ qq_1_16) (hT _ qq_3_20) (by decide +kernel) (rm_R rfl rfl), (hT _ qq_2_229)⟩ (pq_S hPc hK hN) rfl rfl hl.1 rfl (lv_room (Nat.le_of_ble_eq_true rfl)) dX6_buttonIn_14 ⟨Nat.le_of_ble_eq_true rfl, Nat.le_of_ble_eq_true rfl⟩) (fun v9 hz_14 => ?_)
    obtain ⟨x_13, rfl, r_15⟩ := hz_14
    refine lv_iload_n hx hb dX6_buttonIn_17 rfl (lv_at hl 0 rfl) ?_
    have hPc := va_P.sub (ws' := []) hP [] rfl
    refine cl_P (W.runS (As := [.int a]) (rest := [.int x_13]) ⟨hx, hb, hml, hown, hts⟩ (c_Rows_held l D cs a) ⟨callB_of 1 hts (gd_C qq_3_0) rfl rfl rfl (hT _ qq_1_16) (hT _ qq_3_30) (by decide +kernel) (rm_R rfl rfl), (hT _ qq_2_239)⟩ (pq_S hPc hK hN) rfl rfl hl.1 rfl (lv_room (Nat.le_of_ble_eq_true rfl)) dX6_buttonIn_18 ⟨Nat.le_of_ble_eq_true rfl, Nat.le_of_ble_eq_true rfl⟩) (fun v9 hz_17 => ?_)
    obtain ⟨x_16, rfl, r_18⟩ := hz_17
    refine lv_iload_n hx hb dX6_buttonIn_21 rfl (lv_at hl 1 rfl) ?_
    have hPc := va_P.sub (ws' := []) hP [] rfl
    refine cl_P (W.runS (As := [.int b]) (rest := [.int x_16, .int x_13]) ⟨hx, hb, hml, hown, hts⟩ (c_Rows_below l D cs b) ⟨callB_of 1 hts (gd_C qq_3_23) rfl rfl rfl (hT _ qq_1_16) (hT _ qq_3_21) (by decide +kernel) (rm_R rfl rfl), (hT _ qq_3_22)⟩ (pq_S hPc hK hN) rfl rfl hl.1 rfl (lv_room (Nat.le_of_ble_eq_true rfl)) dX6_buttonIn_22 ⟨Nat.le_of_ble_eq_true rfl, Nat.le_of_ble_eq_true rfl⟩) (fun v9 hz_20 => ?_)
    obtain ⟨x_19, rfl⟩ := hz_20
    refine lv_iand hx hb dX6_buttonIn_25 ?_
    refine lv_topi (fun x_22 e_23 => ?_)
    have r_24 : Rg 0 255 x_22 := Rg.andl e_23 r_18 (by decide)
    have hPc := va_P.sub (ws' := []) hP [] rfl
    refine cl_P (W.runS (As := [.int x_22]) (rest := [.int x_13]) ⟨hx, hb, hml, hown, hts⟩ (c_bitCount l D cs x_22) ⟨callB_of 1 hts (gd_C qq_3_26) rfl rfl rfl (hT _ qq_1_17) (hT _ qq_3_24) (by decide +kernel) (rm_R rfl rfl), (hT _ qq_3_25)⟩ (pq_S hPc hK hN) rfl rfl hl.1 rfl (lv_room (Nat.le_of_ble_eq_true rfl)) dX6_buttonIn_26 ⟨Nat.le_of_ble_eq_true rfl, Nat.le_of_ble_eq_true rfl⟩) (fun v9 hz_26 => ?_)
    obtain ⟨x_25, rfl, r_27⟩ := hz_26
    have hPc := va_P.sub (ws' := []) hP [] rfl
    refine cl_P (W.runS (As := [.int x_13, .int x_25]) (rest := []) ⟨hx, hb, hml, hown, hts⟩ (c_Rows_placeOf l D cs x_13 x_25) ⟨callB_of 2 hts (gd_C qq_3_170) rfl rfl rfl (hT _ qq_1_16) (hT _ qq_3_168) (by decide +kernel) (rm_R rfl rfl), (hT _ qq_3_169)⟩ (pq_S hPc hK hN) rfl rfl hl.1 rfl (lv_room (Nat.le_of_ble_eq_true rfl)) dX6_buttonIn_29 ⟨Nat.le_of_ble_eq_true rfl, Nat.le_of_ble_eq_true rfl⟩) (fun v9 hz_29 => ?_)
    obtain ⟨x_28, rfl, r_30⟩ := hz_29
    exact W.iret (v := x_28) hx hb hr (fun t9 ht9 hW9 => ⟨⟨_, rfl, _, rfl, r_30⟩, ht9.trans hHe⟩) (fun _ h9 => by rw [hlc] at h9; exact absurd h9 List.not_mem_nil) dX6_buttonIn_32
  · have r_12 : Rg 0 0 x_7 := Rg.eq_l c_10 r_9 (Rg.c (c := 0) (k := 0) rfl) (by decide)
    refine lv_iconst (v := (-1)) hx hb dX6_buttonIn_11 (by decide) ?_
    exact W.iret (v := (-1)) hx hb hr (fun t9 ht9 hW9 => ⟨⟨_, rfl, _, rfl, (Rg.wk (lo2 := (-1)) (hi2 := 7) (Rg.c (c := (-1)) (k := (-1)) rfl) (by decide))⟩, ht9.trans hHe⟩) (fun _ h9 => by rw [hlc] at h9; exact absurd h9 List.not_mem_nil) dX6_buttonIn_12
theorem dX6_actOf_0 : decode cX6_actOf 0 = .ok (.iload_n 0, 1) := by decide +kernel
theorem dX6_actOf_1 : decode cX6_actOf 1 = .ok (.bipush 6, 2) := by decide +kernel
theorem dX6_actOf_3 : decode cX6_actOf 3 = .ok (.ishl, 1) := by decide +kernel
theorem dX6_actOf_4 : decode cX6_actOf 4 = .ok (.iload_n 1, 1) := by decide +kernel
theorem dX6_actOf_5 : decode cX6_actOf 5 = .ok (.iconst 3, 1) := by decide +kernel
theorem dX6_actOf_6 : decode cX6_actOf 6 = .ok (.ishl, 1) := by decide +kernel
theorem dX6_actOf_7 : decode cX6_actOf 7 = .ok (.ior, 1) := by decide +kernel
theorem dX6_actOf_8 : decode cX6_actOf 8 = .ok (.iload_n 2, 1) := by decide +kernel
theorem dX6_actOf_9 : decode cX6_actOf 9 = .ok (.ior, 1) := by decide +kernel
theorem dX6_actOf_10 : decode cX6_actOf 10 = .ok (.ireturn, 1) := by decide +kernel
set_option maxHeartbeats 4000000 in
set_option maxRecDepth 100000 in
theorem c_Rows_actOf (l : Launch) (D : va_G) (cs : Nat → ClassId) (a : Int32) (b : Int32) (h : Int32)  : Met l yX6_actOf (Cond.code yX6_actOf cX6_actOf 3 (some .int) :: TB) (RM 0 0 0) (va_Pc [.int a, .int b, .int h] (PRR D cs [])) (QP (fun v => ∃ x : Int32, v = .int x)) 0 0 (fun _ => False) := by
  refine MER (y := yX6_actOf) (cc := cX6_actOf) (maxL := 3) (ret := (some .int)) (d := 0) (D := D) (cs := cs) (ws := []) (av := [.int a, .int b, .int h]) (Qc := QP (fun v => ∃ x : Int32, v = .int x)) (by decide) (Nat.le_of_ble_eq_true rfl) ?_
  intro p e s m below meth c ls H hHe hx hb hr hml hown hts hlocks hP hK hN hl
  obtain ⟨locs, hlc⟩ : ∃ z : List Loc, z = [] := ⟨_, rfl⟩
  rw [← hlc]
  have hown : s.vm.findClass "WrongHole$Rows" = some m.cls := hown
  have hT : ∀ w ∈ TB, w.before ([.int a, .int b, .int h] : List Value).toArray s = true := fun w h => hts w (List.mem_cons_of_mem _ h)
  have hl : lv_has ls 3 [(0, .int a), (1, .int b), (2, .int h)] := hl
  have hP : va_P D vwCl [] H := hP
  refine lv_iload_n hx hb dX6_actOf_0 rfl (lv_at hl 0 rfl) ?_
  refine lv_bipush (v := 6) hx hb dX6_actOf_1 (by decide) ?_
  refine lv_ishl hx hb dX6_actOf_3 ?_
  refine lv_topi (fun x_1 e_2 => ?_)
  refine lv_iload_n hx hb dX6_actOf_4 rfl (lv_at hl 1 rfl) ?_
  refine lv_iconst (v := 3) hx hb dX6_actOf_5 (by decide) ?_
  refine lv_ishl hx hb dX6_actOf_6 ?_
  refine lv_topi (fun x_3 e_4 => ?_)
  refine lv_ior hx hb dX6_actOf_7 ?_
  refine lv_topi (fun x_5 e_6 => ?_)
  refine lv_iload_n hx hb dX6_actOf_8 rfl (lv_at hl 2 rfl) ?_
  refine lv_ior hx hb dX6_actOf_9 ?_
  refine lv_topi (fun x_7 e_8 => ?_)
  exact W.iret (v := x_7) hx hb hr (fun t9 ht9 hW9 => ⟨⟨_, rfl, _, rfl⟩, ht9.trans hHe⟩) (fun _ h9 => by rw [hlc] at h9; exact absurd h9 List.not_mem_nil) dX6_actOf_10
theorem dX6_does_0 : decode cX6_does 0 = .ok (.iload_n 0, 1) := by decide +kernel
theorem dX6_does_1 : decode cX6_does 1 = .ok (.bipush 6, 2) := by decide +kernel
theorem dX6_does_3 : decode cX6_does 3 = .ok (.ishr, 1) := by decide +kernel
theorem dX6_does_4 : decode cX6_does 4 = .ok (.iconst 1, 1) := by decide +kernel
theorem dX6_does_5 : decode cX6_does 5 = .ok (.iand, 1) := by decide +kernel
theorem dX6_does_6 : decode cX6_does 6 = .ok (.ireturn, 1) := by decide +kernel
set_option maxHeartbeats 4000000 in
set_option maxRecDepth 100000 in
theorem c_Rows_does (l : Launch) (D : va_G) (cs : Nat → ClassId) (a : Int32)  : Met l yX6_does (Cond.code yX6_does cX6_does 1 (some .int) :: TB) (RM 0 0 0) (va_Pc [.int a] (PRR D cs [])) (QP (fun v => ∃ x : Int32, v = .int x ∧ Rg 0 1 x)) 0 0 (fun _ => False) := by
  refine MER (y := yX6_does) (cc := cX6_does) (maxL := 1) (ret := (some .int)) (d := 0) (D := D) (cs := cs) (ws := []) (av := [.int a]) (Qc := QP (fun v => ∃ x : Int32, v = .int x ∧ Rg 0 1 x)) (by decide) (Nat.le_of_ble_eq_true rfl) ?_
  intro p e s m below meth c ls H hHe hx hb hr hml hown hts hlocks hP hK hN hl
  obtain ⟨locs, hlc⟩ : ∃ z : List Loc, z = [] := ⟨_, rfl⟩
  rw [← hlc]
  have hown : s.vm.findClass "WrongHole$Rows" = some m.cls := hown
  have hT : ∀ w ∈ TB, w.before ([.int a] : List Value).toArray s = true := fun w h => hts w (List.mem_cons_of_mem _ h)
  have hl : lv_has ls 1 [(0, .int a)] := hl
  have hP : va_P D vwCl [] H := hP
  refine lv_iload_n hx hb dX6_does_0 rfl (lv_at hl 0 rfl) ?_
  refine lv_bipush (v := 6) hx hb dX6_does_1 (by decide) ?_
  refine lv_ishr hx hb dX6_does_3 ?_
  refine lv_topi (fun x_1 e_2 => ?_)
  refine lv_iconst (v := 1) hx hb dX6_does_4 (by decide) ?_
  refine lv_iand hx hb dX6_does_5 ?_
  refine lv_topi (fun x_3 e_4 => ?_)
  have r_5 : Rg 0 1 x_3 := Rg.and e_4 (Rg.c (c := 1) (k := 1) rfl) (by decide)
  exact W.iret (v := x_3) hx hb hr (fun t9 ht9 hW9 => ⟨⟨_, rfl, _, rfl, r_5⟩, ht9.trans hHe⟩) (fun _ h9 => by rw [hlc] at h9; exact absurd h9 List.not_mem_nil) dX6_does_6
theorem dX6_buttonOf_0 : decode cX6_buttonOf 0 = .ok (.iload_n 0, 1) := by decide +kernel
theorem dX6_buttonOf_1 : decode cX6_buttonOf 1 = .ok (.iconst 3, 1) := by decide +kernel
theorem dX6_buttonOf_2 : decode cX6_buttonOf 2 = .ok (.ishr, 1) := by decide +kernel
theorem dX6_buttonOf_3 : decode cX6_buttonOf 3 = .ok (.bipush 7, 2) := by decide +kernel
theorem dX6_buttonOf_5 : decode cX6_buttonOf 5 = .ok (.iand, 1) := by decide +kernel
theorem dX6_buttonOf_6 : decode cX6_buttonOf 6 = .ok (.ireturn, 1) := by decide +kernel
set_option maxHeartbeats 4000000 in
set_option maxRecDepth 100000 in
theorem c_Rows_buttonOf (l : Launch) (D : va_G) (cs : Nat → ClassId) (a : Int32)  : Met l yX6_buttonOf (Cond.code yX6_buttonOf cX6_buttonOf 1 (some .int) :: TB) (RM 0 0 0) (va_Pc [.int a] (PRR D cs [])) (QP (fun v => ∃ x : Int32, v = .int x ∧ Rg 0 7 x)) 0 0 (fun _ => False) := by
  refine MER (y := yX6_buttonOf) (cc := cX6_buttonOf) (maxL := 1) (ret := (some .int)) (d := 0) (D := D) (cs := cs) (ws := []) (av := [.int a]) (Qc := QP (fun v => ∃ x : Int32, v = .int x ∧ Rg 0 7 x)) (by decide) (Nat.le_of_ble_eq_true rfl) ?_
  intro p e s m below meth c ls H hHe hx hb hr hml hown hts hlocks hP hK hN hl
  obtain ⟨locs, hlc⟩ : ∃ z : List Loc, z = [] := ⟨_, rfl⟩
  rw [← hlc]
  have hown : s.vm.findClass "WrongHole$Rows" = some m.cls := hown
  have hT : ∀ w ∈ TB, w.before ([.int a] : List Value).toArray s = true := fun w h => hts w (List.mem_cons_of_mem _ h)
  have hl : lv_has ls 1 [(0, .int a)] := hl
  have hP : va_P D vwCl [] H := hP
  refine lv_iload_n hx hb dX6_buttonOf_0 rfl (lv_at hl 0 rfl) ?_
  refine lv_iconst (v := 3) hx hb dX6_buttonOf_1 (by decide) ?_
  refine lv_ishr hx hb dX6_buttonOf_2 ?_
  refine lv_topi (fun x_1 e_2 => ?_)
  refine lv_bipush (v := 7) hx hb dX6_buttonOf_3 (by decide) ?_
  refine lv_iand hx hb dX6_buttonOf_5 ?_
  refine lv_topi (fun x_3 e_4 => ?_)
  have r_5 : Rg 0 7 x_3 := Rg.and e_4 (Rg.c (c := 7) (k := 7) rfl) (by decide)
  exact W.iret (v := x_3) hx hb hr (fun t9 ht9 hW9 => ⟨⟨_, rfl, _, rfl, r_5⟩, ht9.trans hHe⟩) (fun _ h9 => by rw [hlc] at h9; exact absurd h9 List.not_mem_nil) dX6_buttonOf_6
theorem dX6_partOf_0 : decode cX6_partOf 0 = .ok (.iload_n 1, 1) := by decide +kernel
theorem dX6_partOf_1 : decode cX6_partOf 1 = .ok (.ifCond .ne 8, 3) := by decide +kernel
theorem dX6_partOf_9 : decode cX6_partOf 9 = .ok (.iload_n 1, 1) := by decide +kernel
theorem dX6_partOf_10 : decode cX6_partOf 10 = .ok (.iconst 1, 1) := by decide +kernel
theorem dX6_partOf_11 : decode cX6_partOf 11 = .ok (.if_icmp .ne 10, 3) := by decide +kernel
theorem dX6_partOf_21 : decode cX6_partOf 21 = .ok (.iload_n 0, 1) := by decide +kernel
theorem dX6_partOf_22 : decode cX6_partOf 22 = .ok (.bipush 7, 2) := by decide +kernel
theorem dX6_partOf_24 : decode cX6_partOf 24 = .ok (.iand, 1) := by decide +kernel
theorem dX6_partOf_25 : decode cX6_partOf 25 = .ok (.ireturn, 1) := by decide +kernel
theorem dX6_partOf_14 : decode cX6_partOf 14 = .ok (.iload_n 0, 1) := by decide +kernel
theorem dX6_partOf_15 : decode cX6_partOf 15 = .ok (.invokestatic 40, 3) := by decide +kernel
theorem qq_3_39 : Cond.code yX6_buttonOf cX6_buttonOf 1 (some .int) ∈ TB := mk_tb (ti_3 (List.mem_of_getElem? (i := 39) rfl)) rfl
theorem qq_3_37 : Cond.methodLink "WrongHole$Rows" 40 yX6_buttonOf ∈ TB := mk_tb (ti_3 (List.mem_of_getElem? (i := 37) rfl)) rfl
theorem qq_3_38 : Cond.static yX6_buttonOf ∈ TB := mk_tb (ti_3 (List.mem_of_getElem? (i := 38) rfl)) rfl
theorem dX6_partOf_18 : decode cX6_partOf 18 = .ok (.goto 7, 3) := by decide +kernel
theorem dX6_partOf_4 : decode cX6_partOf 4 = .ok (.iload_n 0, 1) := by decide +kernel
theorem dX6_partOf_5 : decode cX6_partOf 5 = .ok (.invokestatic 37, 3) := by decide +kernel
theorem qq_4_12 : Cond.code yX6_does cX6_does 1 (some .int) ∈ TB := mk_tb (ti_4 (List.mem_of_getElem? (i := 12) rfl)) rfl
theorem qq_4_86 : Cond.methodLink "WrongHole$Rows" 37 yX6_does ∈ TB := mk_tb (ti_4 (List.mem_of_getElem? (i := 86) rfl)) rfl
theorem qq_4_11 : Cond.static yX6_does ∈ TB := mk_tb (ti_4 (List.mem_of_getElem? (i := 11) rfl)) rfl
theorem dX6_partOf_8 : decode cX6_partOf 8 = .ok (.ireturn, 1) := by decide +kernel
set_option maxHeartbeats 4000000 in
set_option maxRecDepth 100000 in
theorem c_Rows_partOf (l : Launch) (D : va_G) (cs : Nat → ClassId) (a : Int32) (b : Int32)  : Met l yX6_partOf (Cond.code yX6_partOf cX6_partOf 2 (some .int) :: TB) (RM 1 0 0) (va_Pc [.int a, .int b] (PRR D cs [])) (QP (fun v => ∃ x : Int32, v = .int x ∧ Rg 0 7 x)) 0 0 (fun _ => False) := by
  refine MER (y := yX6_partOf) (cc := cX6_partOf) (maxL := 2) (ret := (some .int)) (d := 1) (D := D) (cs := cs) (ws := []) (av := [.int a, .int b]) (Qc := QP (fun v => ∃ x : Int32, v = .int x ∧ Rg 0 7 x)) (by decide) (Nat.le_of_ble_eq_true rfl) ?_
  intro p e s m below meth c ls H hHe hx hb hr hml hown hts hlocks hP hK hN hl
  obtain ⟨locs, hlc⟩ : ∃ z : List Loc, z = [] := ⟨_, rfl⟩
  rw [← hlc]
  have hown : s.vm.findClass "WrongHole$Rows" = some m.cls := hown
  have hT : ∀ w ∈ TB, w.before ([.int a, .int b] : List Value).toArray s = true := fun w h => hts w (List.mem_cons_of_mem _ h)
  have hl : lv_has ls 2 [(0, .int a), (1, .int b)] := hl
  have hP : va_P D vwCl [] H := hP
  refine lv_iload_n hx hb dX6_partOf_0 rfl (lv_at hl 1 rfl) ?_
  refine lv_if_ne (tgt := 9) hx hb dX6_partOf_1 (by decide) (fun c_1 => ?_) (fun c_1 => ?_)
  · refine lv_iload_n hx hb dX6_partOf_9 rfl (lv_at hl 1 rfl) ?_
    refine lv_iconst (v := 1) hx hb dX6_partOf_10 (by decide) ?_
    refine lv_icmp_ne (tgt := 21) hx hb dX6_partOf_11 (by decide) (fun c_3 => ?_) (fun c_3 => ?_)
    · refine lv_iload_n hx hb dX6_partOf_21 rfl (lv_at hl 0 rfl) ?_
      refine lv_bipush (v := 7) hx hb dX6_partOf_22 (by decide) ?_
      refine lv_iand hx hb dX6_partOf_24 ?_
      refine lv_topi (fun x_11 e_12 => ?_)
      have r_13 : Rg 0 7 x_11 := Rg.and e_12 (Rg.c (c := 7) (k := 7) rfl) (by decide)
      exact W.iret (v := x_11) hx hb hr (fun t9 ht9 hW9 => ⟨⟨_, rfl, _, rfl, r_13⟩, ht9.trans hHe⟩) (fun _ h9 => by rw [hlc] at h9; exact absurd h9 List.not_mem_nil) dX6_partOf_25
    · have r_4 : Rg 1 1 b := Rg.eq_l c_3 (Rg.top b) (Rg.c (c := 1) (k := 1) rfl) (by decide)
      refine lv_iload_n hx hb dX6_partOf_14 rfl (lv_at hl 0 rfl) ?_
      have hPc := va_P.sub (ws' := []) hP [] rfl
      refine cl_P (W.runS (As := [.int a]) (rest := []) ⟨hx, hb, hml, hown, hts⟩ (c_Rows_buttonOf l D cs a) ⟨callB_of 1 hts (gd_C qq_3_39) rfl rfl rfl (hT _ qq_1_16) (hT _ qq_3_37) (by decide +kernel) (rm_R rfl rfl), (hT _ qq_3_38)⟩ (pq_S hPc hK hN) rfl rfl hl.1 rfl (lv_room (Nat.le_of_ble_eq_true rfl)) dX6_partOf_15 ⟨Nat.le_of_ble_eq_true rfl, Nat.le_of_ble_eq_true rfl⟩) (fun v9 hz_15 => ?_)
      obtain ⟨x_14, rfl, r_16⟩ := hz_15
      refine lv_goto (tgt := 25) hx hb dX6_partOf_18 (by decide) ?_
      exact W.iret (v := x_14) hx hb hr (fun t9 ht9 hW9 => ⟨⟨_, rfl, _, rfl, r_16⟩, ht9.trans hHe⟩) (fun _ h9 => by rw [hlc] at h9; exact absurd h9 List.not_mem_nil) dX6_partOf_25
  · have r_2 : Rg 0 0 b := Rg.eq_l c_1 (Rg.top b) (Rg.c (c := 0) (k := 0) rfl) (by decide)
    refine lv_iload_n hx hb dX6_partOf_4 rfl (lv_at hl 0 rfl) ?_
    have hPc := va_P.sub (ws' := []) hP [] rfl
    refine cl_P (W.runS (As := [.int a]) (rest := []) ⟨hx, hb, hml, hown, hts⟩ (c_Rows_does l D cs a) ⟨callB_of 1 hts (gd_C qq_4_12) rfl rfl rfl (hT _ qq_1_16) (hT _ qq_4_86) (by decide +kernel) (rm_R rfl rfl), (hT _ qq_4_11)⟩ (pq_S hPc hK hN) rfl rfl hl.1 rfl (lv_room (Nat.le_of_ble_eq_true rfl)) dX6_partOf_5 ⟨Nat.le_of_ble_eq_true rfl, Nat.le_of_ble_eq_true rfl⟩) (fun v9 hz_18 => ?_)
    obtain ⟨x_17, rfl, r_19⟩ := hz_18
    exact W.iret (v := x_17) hx hb hr (fun t9 ht9 hW9 => ⟨⟨_, rfl, _, rfl, (Rg.wk (lo2 := 0) (hi2 := 7) r_19 (by decide))⟩, ht9.trans hHe⟩) (fun _ h9 => by rw [hlc] at h9; exact absurd h9 List.not_mem_nil) dX6_partOf_8
theorem dX6_behind_0 : decode cX6_behind 0 = .ok (.iload_n 0, 1) := by decide +kernel
theorem dX6_behind_1 : decode cX6_behind 1 = .ok (.sipush 256, 3) := by decide +kernel
theorem dX6_behind_4 : decode cX6_behind 4 = .ok (.iload_n 1, 1) := by decide +kernel
theorem dX6_behind_5 : decode cX6_behind 5 = .ok (.invokestatic 40, 3) := by decide +kernel
theorem dX6_behind_8 : decode cX6_behind 8 = .ok (.ishl, 1) := by decide +kernel
theorem dX6_behind_9 : decode cX6_behind 9 = .ok (.ixor, 1) := by decide +kernel
theorem dX6_behind_10 : decode cX6_behind 10 = .ok (.iconst 1, 1) := by decide +kernel
theorem dX6_behind_11 : decode cX6_behind 11 = .ok (.iload_n 1, 1) := by decide +kernel
theorem dX6_behind_12 : decode cX6_behind 12 = .ok (.bipush 7, 2) := by decide +kernel
theorem dX6_behind_14 : decode cX6_behind 14 = .ok (.iand, 1) := by decide +kernel
theorem dX6_behind_15 : decode cX6_behind 15 = .ok (.ishl, 1) := by decide +kernel
theorem dX6_behind_16 : decode cX6_behind 16 = .ok (.ixor, 1) := by decide +kernel
theorem dX6_behind_17 : decode cX6_behind 17 = .ok (.ireturn, 1) := by decide +kernel
set_option maxHeartbeats 4000000 in
set_option maxRecDepth 100000 in
theorem c_Rows_behind (l : Launch) (D : va_G) (cs : Nat → ClassId) (a : Int32) (b : Int32)  : Met l yX6_behind (Cond.code yX6_behind cX6_behind 2 (some .int) :: TB) (RM 1 0 0) (va_Pc [.int a, .int b] (PRR D cs [])) (QP (fun v => ∃ x : Int32, v = .int x)) 0 0 (fun _ => False) := by
  refine MER (y := yX6_behind) (cc := cX6_behind) (maxL := 2) (ret := (some .int)) (d := 1) (D := D) (cs := cs) (ws := []) (av := [.int a, .int b]) (Qc := QP (fun v => ∃ x : Int32, v = .int x)) (by decide) (Nat.le_of_ble_eq_true rfl) ?_
  intro p e s m below meth c ls H hHe hx hb hr hml hown hts hlocks hP hK hN hl
  obtain ⟨locs, hlc⟩ : ∃ z : List Loc, z = [] := ⟨_, rfl⟩
  rw [← hlc]
  have hown : s.vm.findClass "WrongHole$Rows" = some m.cls := hown
  have hT : ∀ w ∈ TB, w.before ([.int a, .int b] : List Value).toArray s = true := fun w h => hts w (List.mem_cons_of_mem _ h)
  have hl : lv_has ls 2 [(0, .int a), (1, .int b)] := hl
  have hP : va_P D vwCl [] H := hP
  refine lv_iload_n hx hb dX6_behind_0 rfl (lv_at hl 0 rfl) ?_
  refine lv_sipush (v := 256) hx hb dX6_behind_1 (by decide) ?_
  refine lv_iload_n hx hb dX6_behind_4 rfl (lv_at hl 1 rfl) ?_
  have hPc := va_P.sub (ws' := []) hP [] rfl
  refine cl_P (W.runS (As := [.int b]) (rest := [.int 256, .int a]) ⟨hx, hb, hml, hown, hts⟩ (c_Rows_buttonOf l D cs b) ⟨callB_of 1 hts (gd_C qq_3_39) rfl rfl rfl (hT _ qq_1_16) (hT _ qq_3_37) (by decide +kernel) (rm_R rfl rfl), (hT _ qq_3_38)⟩ (pq_S hPc hK hN) rfl rfl hl.1 rfl (lv_room (Nat.le_of_ble_eq_true rfl)) dX6_behind_5 ⟨Nat.le_of_ble_eq_true rfl, Nat.le_of_ble_eq_true rfl⟩) (fun v9 hz_2 => ?_)
  obtain ⟨x_1, rfl, r_3⟩ := hz_2
  refine lv_ishl hx hb dX6_behind_8 ?_
  refine lv_topi (fun x_4 e_5 => ?_)
  have r_6 : Rg 0 32768 x_4 := Rg.shl (ha := 256) (k := 7) e_5 (Rg.wk (Rg.c (c := 256) (k := 256) rfl) (by decide)) (Rg.wk r_3 (by decide)) (by decide) (by decide)
  refine lv_ixor hx hb dX6_behind_9 ?_
  refine lv_topi (fun x_7 e_8 => ?_)
  refine lv_iconst (v := 1) hx hb dX6_behind_10 (by decide) ?_
  refine lv_iload_n hx hb dX6_behind_11 rfl (lv_at hl 1 rfl) ?_
  refine lv_bipush (v := 7) hx hb dX6_behind_12 (by decide) ?_
  refine lv_iand hx hb dX6_behind_14 ?_
  refine lv_topi (fun x_9 e_10 => ?_)
  have r_11 : Rg 0 7 x_9 := Rg.and e_10 (Rg.c (c := 7) (k := 7) rfl) (by decide)
  refine lv_ishl hx hb dX6_behind_15 ?_
  refine lv_topi (fun x_12 e_13 => ?_)
  have r_14 : Rg 0 128 x_12 := Rg.shl (ha := 1) (k := 7) e_13 (Rg.wk (Rg.c (c := 1) (k := 1) rfl) (by decide)) (Rg.wk r_11 (by decide)) (by decide) (by decide)
  refine lv_ixor hx hb dX6_behind_16 ?_
  refine lv_topi (fun x_15 e_16 => ?_)
  exact W.iret (v := x_15) hx hb hr (fun t9 ht9 hW9 => ⟨⟨_, rfl, _, rfl⟩, ht9.trans hHe⟩) (fun _ h9 => by rw [hlc] at h9; exact absurd h9 List.not_mem_nil) dX6_behind_17
