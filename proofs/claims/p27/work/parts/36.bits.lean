set_option maxHeartbeats 4000000 in
set_option maxRecDepth 100000 in
theorem c_bitCount_x (l : Launch) (D : va_G) (cs : Nat → ClassId) (a : Int32) (r_a : Rg 0 255 a) : Met l yJ6_bitCount_0f7a4 (Cond.code yJ6_bitCount_0f7a4 cJ6_bitCount_0f7a4 1 (some .int) :: TB) (RM 0 0 0) (va_Pc [.int a] (PRR D cs [])) (k2_QcV (.int (nI (pc (cN a))))) 0 0 (fun _ => False) := by
  refine MER (y := yJ6_bitCount_0f7a4) (cc := cJ6_bitCount_0f7a4) (maxL := 1) (ret := (some .int)) (d := 0) (D := D) (cs := cs) (ws := []) (av := [.int a]) (Qc := k2_QcV (.int (nI (pc (cN a))))) (by decide) (Nat.le_of_ble_eq_true rfl) ?_
  intro p e s m below meth c ls H hHe hx hb hr hml hown hts hlocks hP hK hN hl
  obtain ⟨locs, hlc⟩ : ∃ z : List Loc, z = [] := ⟨_, rfl⟩
  rw [← hlc]
  have hown : s.vm.findClass "java/lang/Integer" = some m.cls := hown
  have hT : ∀ w ∈ TB, w.before ([.int a] : List Value).toArray s = true := fun w h => hts w (List.mem_cons_of_mem _ h)
  have hl : lv_has ls 1 [(0, .int a)] := hl
  have hP : va_P D vwCl [] H := hP
  refine lv_iload_n hx hb dJ6_bitCount_0f7a4_0 rfl (lv_at hl 0 rfl) ?_
  refine lv_iload_n hx hb dJ6_bitCount_0f7a4_1 rfl (lv_at hl 0 rfl) ?_
  refine lv_iconst (v := 1) hx hb dJ6_bitCount_0f7a4_2 (by decide) ?_
  obtain ⟨x_1, e_2⟩ : ∃ z : Int32, (Int32.toUInt32 a >>> (Int32.toUInt32 1 &&& Int32.toUInt32 31)).toInt32 = z := ⟨_, rfl⟩
  refine lv_iushr (v := x_1) hx hb dJ6_bitCount_0f7a4_3 e_2 ?_
  refine lv_ldcw (v := 1431655765) hx hb hown (hT _ qq_3_27) dJ6_bitCount_0f7a4_4 ?_
  refine lv_iand hx hb dJ6_bitCount_0f7a4_7 ?_
  refine lv_topi (fun x_3 e_4 => ?_)
  have r_5 : Rg 0 1431655765 x_3 := Rg.and e_4 (Rg.c (c := 1431655765) (k := 1431655765) rfl) (by decide)
  refine lv_isub hx hb dJ6_bitCount_0f7a4_8 ?_
  refine lv_topi (fun x_6 e_7 => ?_)
  have r_8 : Rg (-1431655765) 255 x_6 := Rg.sub e_7 r_a r_5 (by decide)
  refine lv_istore_n (lv' := [(0, .int x_6)]) hx hb dJ6_bitCount_0f7a4_9 rfl hl (by decide) rfl (fun ls hl => ?_)
  refine lv_iload_n hx hb dJ6_bitCount_0f7a4_10 rfl (lv_at hl 0 rfl) ?_
  refine lv_ldcw (v := 858993459) hx hb hown (hT _ qq_3_28) dJ6_bitCount_0f7a4_11 ?_
  refine lv_iand hx hb dJ6_bitCount_0f7a4_14 ?_
  refine lv_topi (fun x_9 e_10 => ?_)
  have r_11 : Rg 0 858993459 x_9 := Rg.and e_10 (Rg.c (c := 858993459) (k := 858993459) rfl) (by decide)
  refine lv_iload_n hx hb dJ6_bitCount_0f7a4_15 rfl (lv_at hl 0 rfl) ?_
  refine lv_iconst (v := 2) hx hb dJ6_bitCount_0f7a4_16 (by decide) ?_
  obtain ⟨x_12, e_13⟩ : ∃ z : Int32, (Int32.toUInt32 x_6 >>> (Int32.toUInt32 2 &&& Int32.toUInt32 31)).toInt32 = z := ⟨_, rfl⟩
  refine lv_iushr (v := x_12) hx hb dJ6_bitCount_0f7a4_17 e_13 ?_
  refine lv_ldcw (v := 858993459) hx hb hown (hT _ qq_3_28) dJ6_bitCount_0f7a4_18 ?_
  refine lv_iand hx hb dJ6_bitCount_0f7a4_21 ?_
  refine lv_topi (fun x_14 e_15 => ?_)
  have r_16 : Rg 0 858993459 x_14 := Rg.and e_15 (Rg.c (c := 858993459) (k := 858993459) rfl) (by decide)
  refine lv_iadd hx hb dJ6_bitCount_0f7a4_22 ?_
  refine lv_topi (fun x_17 e_18 => ?_)
  have r_19 : Rg 0 1717986918 x_17 := Rg.add e_18 r_11 r_16 (by decide)
  refine lv_istore_n (lv' := [(0, .int x_17)]) hx hb dJ6_bitCount_0f7a4_23 rfl hl (by decide) rfl (fun ls hl => ?_)
  refine lv_iload_n hx hb dJ6_bitCount_0f7a4_24 rfl (lv_at hl 0 rfl) ?_
  refine lv_iload_n hx hb dJ6_bitCount_0f7a4_25 rfl (lv_at hl 0 rfl) ?_
  refine lv_iconst (v := 4) hx hb dJ6_bitCount_0f7a4_26 (by decide) ?_
  obtain ⟨x_20, e_21⟩ : ∃ z : Int32, (Int32.toUInt32 x_17 >>> (Int32.toUInt32 4 &&& Int32.toUInt32 31)).toInt32 = z := ⟨_, rfl⟩
  refine lv_iushr (v := x_20) hx hb dJ6_bitCount_0f7a4_27 e_21 ?_
  refine lv_iadd hx hb dJ6_bitCount_0f7a4_28 ?_
  refine lv_topi (fun x_22 e_23 => ?_)
  refine lv_ldcw (v := 252645135) hx hb hown (hT _ qq_3_29) dJ6_bitCount_0f7a4_29 ?_
  refine lv_iand hx hb dJ6_bitCount_0f7a4_32 ?_
  refine lv_topi (fun x_24 e_25 => ?_)
  have r_26 : Rg 0 252645135 x_24 := Rg.and e_25 (Rg.c (c := 252645135) (k := 252645135) rfl) (by decide)
  refine lv_istore_n (lv' := [(0, .int x_24)]) hx hb dJ6_bitCount_0f7a4_33 rfl hl (by decide) rfl (fun ls hl => ?_)
  refine lv_iload_n hx hb dJ6_bitCount_0f7a4_34 rfl (lv_at hl 0 rfl) ?_
  refine lv_iload_n hx hb dJ6_bitCount_0f7a4_35 rfl (lv_at hl 0 rfl) ?_
  refine lv_bipush (v := 8) hx hb dJ6_bitCount_0f7a4_36 (by decide) ?_
  obtain ⟨x_27, e_28⟩ : ∃ z : Int32, (Int32.toUInt32 x_24 >>> (Int32.toUInt32 8 &&& Int32.toUInt32 31)).toInt32 = z := ⟨_, rfl⟩
  refine lv_iushr (v := x_27) hx hb dJ6_bitCount_0f7a4_38 e_28 ?_
  refine lv_iadd hx hb dJ6_bitCount_0f7a4_39 ?_
  refine lv_topi (fun x_29 e_30 => ?_)
  refine lv_istore_n (lv' := [(0, .int x_29)]) hx hb dJ6_bitCount_0f7a4_40 rfl hl (by decide) rfl (fun ls hl => ?_)
  refine lv_iload_n hx hb dJ6_bitCount_0f7a4_41 rfl (lv_at hl 0 rfl) ?_
  refine lv_iload_n hx hb dJ6_bitCount_0f7a4_42 rfl (lv_at hl 0 rfl) ?_
  refine lv_bipush (v := 16) hx hb dJ6_bitCount_0f7a4_43 (by decide) ?_
  obtain ⟨x_31, e_32⟩ : ∃ z : Int32, (Int32.toUInt32 x_29 >>> (Int32.toUInt32 16 &&& Int32.toUInt32 31)).toInt32 = z := ⟨_, rfl⟩
  refine lv_iushr (v := x_31) hx hb dJ6_bitCount_0f7a4_45 e_32 ?_
  refine lv_iadd hx hb dJ6_bitCount_0f7a4_46 ?_
  refine lv_topi (fun x_33 e_34 => ?_)
  refine lv_istore_n (lv' := [(0, .int x_33)]) hx hb dJ6_bitCount_0f7a4_47 rfl hl (by decide) rfl (fun ls hl => ?_)
  refine lv_iload_n hx hb dJ6_bitCount_0f7a4_48 rfl (lv_at hl 0 rfl) ?_
  refine lv_bipush (v := 63) hx hb dJ6_bitCount_0f7a4_49 (by decide) ?_
  refine lv_iand hx hb dJ6_bitCount_0f7a4_51 ?_
  refine lv_topi (fun x_35 e_36 => ?_)
  have r_37 : Rg 0 63 x_35 := Rg.and e_36 (Rg.c (c := 63) (k := 63) rfl) (by decide)
  exact W.iret (v := x_35) hx hb hr (fun t9 ht9 hW9 => ⟨by rw [show (.int (nI (pc (cN a))) : Value) = .int x_35 from (by rw [← bc_x r_a]; congr 1; subst_vars; rfl)], ht9.trans hHe⟩) (fun _ h9 => by rw [hlc] at h9; exact absurd h9 List.not_mem_nil) dJ6_bitCount_0f7a4_52
