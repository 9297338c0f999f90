theorem dX0_add_0 : decode cX0_add 0 = .ok (.iconst 0, 1) := by decide +kernel
theorem dX0_add_1 : decode cX0_add 1 = .ok (.istore 4, 2) := by decide +kernel
theorem dX0_add_3 : decode cX0_add 3 = .ok (.iload 4, 2) := by decide +kernel
theorem dX0_add_5 : decode cX0_add 5 = .ok (.bipush 8, 2) := by decide +kernel
theorem dX0_add_7 : decode cX0_add 7 = .ok (.if_icmp .ge 53, 3) := by decide +kernel
theorem dX0_add_60 : decode cX0_add 60 = .ok (.return_, 1) := by decide +kernel
theorem dX0_add_10 : decode cX0_add 10 = .ok (.aload_n 0, 1) := by decide +kernel
theorem dX0_add_11 : decode cX0_add 11 = .ok (.getfield 38, 3) := by decide +kernel
theorem qq_1_167 : Cond.fieldLink "WrongHole$Acts" 38 "WrongHole$Acts" "size" "I" ∈ TB := mk_tb (ti_1 (List.mem_of_getElem? (i := 167) rfl)) rfl
theorem iq_RX0 (cd : Cond) : ∀ w ∈ u_ws RX0 TX0 3, w ∈ cd :: TB := by
  intro w hw
  obtain ⟨k, hk, rfl⟩ := List.mem_map.mp hw
  have hk := List.mem_range.mp hk
  refine List.mem_cons_of_mem _ ?_
  match k, hk with
  | 0, _ => exact mk_tb (ti_1 (List.mem_of_getElem? (i := 170) rfl)) rfl
  | 1, _ => exact mk_tb (ti_1 (List.mem_of_getElem? (i := 172) rfl)) rfl
  | 2, _ => exact mk_tb (ti_1 (List.mem_of_getElem? (i := 174) rfl)) rfl
  | n + 3, h => exact absurd h (by omega)
theorem dX0_add_14 : decode cX0_add 14 = .ok (.bipush 72, 2) := by decide +kernel
theorem dX0_add_16 : decode cX0_add 16 = .ok (.if_icmp .ge 44, 3) := by decide +kernel
theorem dX0_add_19 : decode cX0_add 19 = .ok (.iload_n 3, 1) := by decide +kernel
theorem dX0_add_20 : decode cX0_add 20 = .ok (.iload 4, 2) := by decide +kernel
theorem dX0_add_22 : decode cX0_add 22 = .ok (.ishr, 1) := by decide +kernel
theorem dX0_add_23 : decode cX0_add 23 = .ok (.iconst 1, 1) := by decide +kernel
theorem dX0_add_24 : decode cX0_add 24 = .ok (.iand, 1) := by decide +kernel
theorem dX0_add_25 : decode cX0_add 25 = .ok (.ifCond .eq 29, 3) := by decide +kernel
theorem dX0_add_54 : decode cX0_add 54 = .ok (.iinc 4 1, 3) := by decide +kernel
theorem dX0_add_57 : decode cX0_add 57 = .ok (.goto (-54), 3) := by decide +kernel
theorem dX0_add_28 : decode cX0_add 28 = .ok (.aload_n 0, 1) := by decide +kernel
theorem dX0_add_29 : decode cX0_add 29 = .ok (.getfield 13, 3) := by decide +kernel
theorem qq_1_164 : Cond.fieldLink "WrongHole$Acts" 13 "WrongHole$Acts" "codes" "[I" ∈ TB := mk_tb (ti_1 (List.mem_of_getElem? (i := 164) rfl)) rfl
theorem dX0_add_32 : decode cX0_add 32 = .ok (.aload_n 0, 1) := by decide +kernel
theorem dX0_add_33 : decode cX0_add 33 = .ok (.getfield 38, 3) := by decide +kernel
theorem dX0_add_36 : decode cX0_add 36 = .ok (.iload_n 1, 1) := by decide +kernel
theorem dX0_add_37 : decode cX0_add 37 = .ok (.iload_n 2, 1) := by decide +kernel
theorem dX0_add_38 : decode cX0_add 38 = .ok (.iload 4, 2) := by decide +kernel
theorem dX0_add_40 : decode cX0_add 40 = .ok (.invokestatic 49, 3) := by decide +kernel
theorem qq_3_33 : Cond.code yX6_actOf cX6_actOf 3 (some .int) ∈ TB := mk_tb (ti_3 (List.mem_of_getElem? (i := 33) rfl)) rfl
theorem qq_4_76 : Cond.methodLink "WrongHole$Acts" 49 yX6_actOf ∈ TB := mk_tb (ti_4 (List.mem_of_getElem? (i := 76) rfl)) rfl
theorem qq_3_32 : Cond.static yX6_actOf ∈ TB := mk_tb (ti_3 (List.mem_of_getElem? (i := 32) rfl)) rfl
theorem dX0_add_43 : decode cX0_add 43 = .ok (.iastore, 1) := by decide +kernel
theorem dX0_add_44 : decode cX0_add 44 = .ok (.aload_n 0, 1) := by decide +kernel
theorem dX0_add_45 : decode cX0_add 45 = .ok (.dup, 1) := by decide +kernel
theorem dX0_add_46 : decode cX0_add 46 = .ok (.getfield 38, 3) := by decide +kernel
theorem dX0_add_49 : decode cX0_add 49 = .ok (.iconst 1, 1) := by decide +kernel
theorem dX0_add_50 : decode cX0_add 50 = .ok (.iadd, 1) := by decide +kernel
theorem dX0_add_51 : decode cX0_add 51 = .ok (.putfield 38, 3) := by decide +kernel
set_option maxHeartbeats 4000000 in
set_option maxRecDepth 100000 in
theorem c_Acts_add (l : Launch) (D : va_G) (cs : Nat → ClassId) (X : XX) (sz : Nat) (ha : Nat) (as : Nat) (ad : Nat) (ac : Int32) (gs : Nat → Int32) (gc : Nat → Int32) (x : Int32) (b : Int32) (h : Int32) (r_ac : Rg 0 72 ac) : Met l yX0_add (Cond.code yX0_add cX0_add 5 none :: TB) (RM 1 0 0) (va_Pc [.ref ha, .int x, .int b, .int h] (PRE D cs X [(ha, .inr (0, [.ref as, .ref ad, .int ac])), (as, .inl ((cs 0), 8, .inl gs)), (ad, .inl ((cs 0), 72, .inl gc))] [] sz)) (va_Qv (S := Unit) (fun _ => True) (fun _ t => ∃ (ac2 : Int32), ∃ (gs2 : Nat → Int32), ∃ (gc2 : Nat → Int32), Rg 0 72 ac2 ∧ va_P D vwCl [(ha, .inr (0, [.ref as, .ref ad, .int ac2])), (as, .inl ((cs 0), 8, .inl gs2)), (ad, .inl ((cs 0), 72, .inl gc2))] t.heap ∧ va_D (va_A [(ha, .inr (0, [.ref as, .ref ad, .int ac])), (as, .inl ((cs 0), 8, .inl gs)), (ad, .inl ((cs 0), 72, .inl gc))] sz) [(ha, .inr (0, [.ref as, .ref ad, .int ac2])), (as, .inl ((cs 0), 8, .inl gs2)), (ad, .inl ((cs 0), 72, .inl gc2))]) (va_A [(ha, .inr (0, [.ref as, .ref ad, .int ac])), (as, .inl ((cs 0), 8, .inl gs)), (ad, .inl ((cs 0), 72, .inl gc))] sz)) 0 0 (va_A [(ha, .inr (0, [.ref as, .ref ad, .int ac])), (as, .inl ((cs 0), 8, .inl gs)), (ad, .inl ((cs 0), 72, .inl gc))] sz) := by
  refine MET (y := yX0_add) (cc := cX0_add) (maxL := 5) (ret := none) (d := 1) (mc := 0) (ms := 0) (D := D) (cs := cs) (X := X) (ws := [(ha, .inr (0, [.ref as, .ref ad, .int ac])), (as, .inl ((cs 0), 8, .inl gs)), (ad, .inl ((cs 0), 72, .inl gc))]) (wo := []) (sz := sz) (av := [.ref ha, .int x, .int b, .int h]) (Qc := fun A => va_Qv (S := Unit) (fun _ => True) (fun _ t => ∃ (ac2 : Int32), ∃ (gs2 : Nat → Int32), ∃ (gc2 : Nat → Int32), Rg 0 72 ac2 ∧ va_P D vwCl [(ha, .inr (0, [.ref as, .ref ad, .int ac2])), (as, .inl ((cs 0), 8, .inl gs2)), (ad, .inl ((cs 0), 72, .inl gc2))] t.heap ∧ va_D A [(ha, .inr (0, [.ref as, .ref ad, .int ac2])), (as, .inl ((cs 0), 8, .inl gs2)), (ad, .inl ((cs 0), 72, .inl gc2))]) A) (by decide) (Nat.le_of_ble_eq_true rfl) ?_
  intro p e s m below meth c ls A H hHe hx hb hr hml hown hts hlocks hnm hP hK hD hA hS hN hR hX hXs hl
  have hD : va_D A [(ha, .inr (0, [.ref as, .ref ad, .int ac])), (as, .inl ((cs 0), 8, .inl gs)), (ad, .inl ((cs 0), 72, .inl gc))] := hD
  obtain ⟨locs, hlc⟩ : ∃ z : List Loc, z = [] := ⟨_, rfl⟩
  rw [← hlc] at hS ⊢
  have hown : s.vm.findClass "WrongHole$Acts" = some m.cls := hown
  have hT : ∀ w ∈ TB, w.before ([.ref ha, .int x, .int b, .int h] : List Value).toArray s = true := fun w h => hts w (List.mem_cons_of_mem _ h)
  have hl : lv_has ls 5 [(0, .ref ha), (1, .int x), (2, .int b), (3, .int h)] := hl
  have hP : va_P D vwCl [(ha, .inr (0, [.ref as, .ref ad, .int ac])), (as, .inl ((cs 0), 8, .inl gs)), (ad, .inl ((cs 0), 72, .inl gc))] H := hP
  refine lv_iconst (v := 0) hx hb dX0_add_0 (by decide) ?_
  refine lv_istore (lv' := [(4, .int 0), (0, .ref ha), (1, .int x), (2, .int b), (3, .int h)]) hx hb dX0_add_1 hl (by decide) rfl (fun ls hl => ?_)
  refine w_wh (σ := (Int32) × (Int32) × (Nat → Int32)) (fun x9 H locs ls => match x9 with | (v_57, v_58, g_59) => Rg 0 8 v_57 ∧ Rg 0 72 v_58 ∧ va_P D vwCl [(ha, .inr (0, [.ref as, .ref ad, .int v_58])), (as, .inl ((cs 0), 8, .inl gs)), (ad, .inl ((cs 0), 72, .inl g_59))] H ∧ va_D A [(ha, .inr (0, [.ref as, .ref ad, .int v_58])), (as, .inl ((cs 0), 8, .inl gs)), (ad, .inl ((cs 0), 72, .inl g_59))] ∧ va_S A s.heap H locs ∧ lv_has ls 5 [(4, .int v_57), (0, .ref ha), (1, .int x), (2, .int b), (3, .int h)]) (fun x9 => match x9 with | (v_57, v_58, g_59) => (8 - Int32.toInt v_57).toNat) 3 ?_ (0, ac, gc) H locs ls ⟨(Rg.wk (lo2 := 0) (hi2 := 8) (Rg.c (c := 0) (k := 0) rfl) (by decide)), r_ac, hP, hD, hS, lv_sub hl [0, 1, 2, 3, 4] rfl⟩
  rintro ⟨v_57, v_58, g_59⟩ H locs ls ⟨r_699, r_700, hP, hD, hS, hl⟩ ih_698
  refine lv_iload hx hb dX0_add_3 (lv_at hl 0 rfl) ?_
  refine lv_bipush (v := 8) hx hb dX0_add_5 (by decide) ?_
  refine lv_icmp_ge (tgt := 60) hx hb dX0_add_7 (by decide) (fun c_701 => ?_) (fun c_701 => ?_)
  · have r_702 : Rg 8 8 v_57 := Rg.le_r c_701 (Rg.c (c := 8) (k := 8) rfl) r_699 (by decide)
    refine W.widen (k := 0) (n := 0) (Nat.le_of_ble_eq_true rfl) (Nat.le_of_ble_eq_true rfl) ?_
    have hP9 := hP.sub (ws' := [(ha, .inr (0, [.ref as, .ref ad, .int v_58])), (as, .inl ((cs 0), 8, .inl gs)), (ad, .inl ((cs 0), 72, .inl g_59))]) [0, 1, 2] rfl
    have hD9 := hD.sub (ws' := [(ha, .inr (0, [.ref as, .ref ad, .int v_58])), (as, .inl ((cs 0), 8, .inl gs)), (ad, .inl ((cs 0), 72, .inl g_59))]) [0, 1, 2] (by decide) rfl
    exact W.vret hx hb hr (fun t9 ht9 hW9 => ⟨⟨(), rfl, trivial, ⟨v_58, gs, g_59, r_700, by rw [ht9]; exact hP9, hD9⟩⟩, hS.F ht9⟩) hS.2.2 dX0_add_60
  · have r_703 : Rg 0 7 v_57 := Rg.lt_l (nle_lt c_701) r_699 (Rg.c (c := 8) (k := 8) rfl) (by decide)
    refine lv_aload_n hx hb dX0_add_10 rfl (lv_at hl 1 rfl) ?_
    refine va_get (D := D) (ci := 0) (v := .int v_58) (C := "WrongHole$Acts") (T := TX0) (N := 3) hx hb hts (iq_RX0 _) hown hK hP 0 rfl rfl 2 (by decide) (hT _ qq_1_167) (fun _ h9 => h9) rfl dX0_add_11 ?_
    refine lv_bipush (v := 72) hx hb dX0_add_14 (by decide) ?_
    refine lv_icmp_ge (tgt := 60) hx hb dX0_add_16 (by decide) (fun c_736 => ?_) (fun c_736 => ?_)
    · have r_737 : Rg 72 72 v_58 := Rg.le_r c_736 (Rg.c (c := 72) (k := 72) rfl) r_700 (by decide)
      refine W.widen (k := 0) (n := 0) (Nat.le_of_ble_eq_true rfl) (Nat.le_of_ble_eq_true rfl) ?_
      have hP9 := hP.sub (ws' := [(ha, .inr (0, [.ref as, .ref ad, .int v_58])), (as, .inl ((cs 0), 8, .inl gs)), (ad, .inl ((cs 0), 72, .inl g_59))]) [0, 1, 2] rfl
      have hD9 := hD.sub (ws' := [(ha, .inr (0, [.ref as, .ref ad, .int v_58])), (as, .inl ((cs 0), 8, .inl gs)), (ad, .inl ((cs 0), 72, .inl g_59))]) [0, 1, 2] (by decide) rfl
      exact W.vret hx hb hr (fun t9 ht9 hW9 => ⟨⟨(), rfl, trivial, ⟨v_58, gs, g_59, (Rg.wk (lo2 := 0) (hi2 := 72) r_737 (by decide)), by rw [ht9]; exact hP9, hD9⟩⟩, hS.F ht9⟩) hS.2.2 dX0_add_60
    · have r_738 : Rg 0 71 v_58 := Rg.lt_l (nle_lt c_736) r_700 (Rg.c (c := 72) (k := 72) rfl) (by decide)
      refine lv_iload_n hx hb dX0_add_19 rfl (lv_at hl 4 rfl) ?_
      refine lv_iload hx hb dX0_add_20 (lv_at hl 0 rfl) ?_
      refine lv_ishr hx hb dX0_add_22 ?_
      refine lv_topi (fun x_768 e_769 => ?_)
      refine lv_iconst (v := 1) hx hb dX0_add_23 (by decide) ?_
      refine lv_iand hx hb dX0_add_24 ?_
      refine lv_topi (fun x_770 e_771 => ?_)
      have r_772 : Rg 0 1 x_770 := Rg.and e_771 (Rg.c (c := 1) (k := 1) rfl) (by decide)
      refine w_cut (σ := (Int32) × (Nat → Int32)) (fun x9 H locs ls => match x9 with | (v_784, g_785) => Rg 0 72 v_784 ∧ va_P D vwCl [(ha, .inr (0, [.ref as, .ref ad, .int v_784])), (as, .inl ((cs 0), 8, .inl gs)), (ad, .inl ((cs 0), 72, .inl g_785))] H ∧ va_D A [(ha, .inr (0, [.ref as, .ref ad, .int v_784])), (as, .inl ((cs 0), 8, .inl gs)), (ad, .inl ((cs 0), 72, .inl g_785))] ∧ va_S A s.heap H locs ∧ lv_has ls 5 [(4, .int v_57), (0, .ref ha), (1, .int x), (2, .int b), (3, .int h)]) 54 (fun x9 => match x9 with | (v_784, g_785) => []) ?_ (fun hj_786 => ?_)
      · rintro ⟨v_784, g_785⟩ H locs ls ⟨r_787, hP, hD, hS, hl⟩
        obtain ⟨x_788, e_789⟩ : ∃ z : Int32, z = v_57 + Int32.ofInt 1 := ⟨_, rfl⟩
        have r_790 : Rg 1 8 x_788 := Rg.add e_789 r_703 (Rg.c (c := Int32.ofInt 1) (k := 1) rfl) (by decide)
        refine lv_iinc (v := x_788) (lv' := [(4, .int x_788), (0, .ref ha), (1, .int x), (2, .int b), (3, .int h)]) hx hb dX0_add_54 hl (k := 0) rfl (e_789.symm) (by decide) rfl (fun ls hl => ?_)
        refine lv_goto (tgt := 3) hx hb dX0_add_57 (by decide) ?_
        exact ih_698 (x_788, v_784, g_785) _ _ _ ⟨(Rg.wk (lo2 := 0) (hi2 := 8) r_790 (by decide)), r_787, hP, hD, hS, lv_sub hl [0, 1, 2, 3, 4] rfl⟩ (ms_up e_789 r_703 (Rg.c (c := Int32.ofInt 1) (k := 1) rfl) (by decide))
      · refine lv_if_eq (tgt := 54) hx hb dX0_add_25 (by decide) (fun c_773 => ?_) (fun c_773 => ?_)
        · have r_774 : Rg 0 0 x_770 := Rg.eq_l c_773 r_772 (Rg.c (c := 0) (k := 0) rfl) (by decide)
          exact hj_786 (v_58, g_59) _ _ _ ⟨(Rg.wk (lo2 := 0) (hi2 := 72) r_738 (by decide)), hP, hD, hS, lv_sub hl [0, 1, 2, 3, 4] rfl⟩
        · have r_775 : Rg 1 1 x_770 := Rg.ne c_773 r_772 (Rg.c (c := 0) (k := 0) rfl) (by decide)
          refine lv_aload_n hx hb dX0_add_28 rfl (lv_at hl 1 rfl) ?_
          refine va_get (D := D) (ci := 0) (v := .ref ad) (C := "WrongHole$Acts") (T := TX0) (N := 3) hx hb hts (iq_RX0 _) hown hK hP 0 rfl rfl 1 (by decide) (hT _ qq_1_164) (fun _ h9 => h9) rfl dX0_add_29 ?_
          refine lv_aload_n hx hb dX0_add_32 rfl (lv_at hl 1 rfl) ?_
          refine va_get (D := D) (ci := 0) (v := .int v_58) (C := "WrongHole$Acts") (T := TX0) (N := 3) hx hb hts (iq_RX0 _) hown hK hP 0 rfl rfl 2 (by decide) (hT _ qq_1_167) (fun _ h9 => h9) rfl dX0_add_33 ?_
          refine lv_iload_n hx hb dX0_add_36 rfl (lv_at hl 2 rfl) ?_
          refine lv_iload_n hx hb dX0_add_37 rfl (lv_at hl 3 rfl) ?_
          refine lv_iload hx hb dX0_add_38 (lv_at hl 0 rfl) ?_
          have hPc := va_P.sub (ws' := []) hP [] rfl
          refine cl_P (W.runS (As := [.int x, .int b, .int v_57]) (rest := [.int v_58, .ref ad]) ⟨hx, hb, hml, hown, hts⟩ (c_Rows_actOf l D cs x b v_57) ⟨callB_of 3 hts (gd_C qq_3_33) rfl rfl rfl (hT _ qq_1_16) (hT _ qq_4_76) (by decide +kernel) (rm_R rfl rfl), (hT _ qq_3_32)⟩ (pq_S hPc hK hN) rfl rfl hl.1 rfl (lv_room (Nat.le_of_ble_eq_true rfl)) dX0_add_40 ⟨Nat.le_of_ble_eq_true rfl, Nat.le_of_ble_eq_true rfl⟩) (fun v9 hz_792 => ?_)
          obtain ⟨x_791, rfl⟩ := hz_792
          have hi_794 : vp_in v_58 72 := Rg.in r_738 (by decide)
          refine va_iast hx hb hK hP hD hS 2 0 rfl rfl hi_794 dX0_add_43 (fun H locs hP hD hS => ?_)
          obtain ⟨g_795, hP, hD⟩ : ∃ g_795 : Nat → Int32, va_P D vwCl [(ha, .inr (0, [.ref as, .ref ad, .int v_58])), (as, .inl ((cs 0), 8, .inl gs)), (ad, .inl ((cs 0), 72, .inl g_795))] H ∧ va_D A [(ha, .inr (0, [.ref as, .ref ad, .int v_58])), (as, .inl ((cs 0), 8, .inl gs)), (ad, .inl ((cs 0), 72, .inl g_795))] := ⟨_, hP, hD⟩
          refine lv_aload_n hx hb dX0_add_44 rfl (lv_at hl 1 rfl) ?_
          refine lv_dup hx hb dX0_add_45 rfl ?_
          refine va_get (D := D) (ci := 0) (v := .int v_58) (C := "WrongHole$Acts") (T := TX0) (N := 3) hx hb hts (iq_RX0 _) hown hK hP 0 rfl rfl 2 (by decide) (hT _ qq_1_167) (fun _ h9 => h9) rfl dX0_add_46 ?_
          refine lv_iconst (v := 1) hx hb dX0_add_49 (by decide) ?_
          refine lv_iadd hx hb dX0_add_50 ?_
          refine lv_topi (fun x_796 e_797 => ?_)
          have r_798 : Rg 1 72 x_796 := Rg.add e_797 r_738 (Rg.c (c := 1) (k := 1) rfl) (by decide)
          refine va_put (D := D) (ci := 0) (v := .int x_796) (ty := .int) (C := "WrongHole$Acts") (T := TX0) (N := 3) hx hb hts (iq_RX0 _) tyX0 tyX0_ok nmX0 hown hK hP hD hS 0 rfl rfl 2 (by decide) (hT _ qq_1_167) (fun _ h9 => h9) rfl (by decide +kernel) rfl rfl (Nat.le_of_ble_eq_true rfl) dX0_add_51 (fun H locs hP hD hS => ?_)
          have hP : va_P D vwCl [(ha, .inr (0, [.ref as, .ref ad, .int x_796])), (as, .inl ((cs 0), 8, .inl gs)), (ad, .inl ((cs 0), 72, .inl g_795))] H := hP
          have hD : va_D A [(ha, .inr (0, [.ref as, .ref ad, .int x_796])), (as, .inl ((cs 0), 8, .inl gs)), (ad, .inl ((cs 0), 72, .inl g_795))] := hD
          exact hj_786 (x_796, g_795) _ _ _ ⟨(Rg.wk (lo2 := 0) (hi2 := 72) r_798 (by decide)), hP, hD, hS, lv_sub hl [0, 1, 2, 3, 4] rfl⟩
theorem dX0_survey_0 : decode cX0_survey 0 = .ok (.iload_n 2, 1) := by decide +kernel
theorem dX0_survey_1 : decode cX0_survey 1 = .ok (.invokestatic 16, 3) := by decide +kernel
theorem qq_4_69 : Cond.methodLink "WrongHole$Acts" 16 yX6_in ∈ TB := mk_tb (ti_4 (List.mem_of_getElem? (i := 69) rfl)) rfl
theorem dX0_survey_4 : decode cX0_survey 4 = .ok (.istore_n 3, 1) := by decide +kernel
theorem dX0_survey_5 : decode cX0_survey 5 = .ok (.iload_n 2, 1) := by decide +kernel
theorem dX0_survey_6 : decode cX0_survey 6 = .ok (.invokestatic 22, 3) := by decide +kernel
theorem qq_4_70 : Cond.methodLink "WrongHole$Acts" 22 yX6_held ∈ TB := mk_tb (ti_4 (List.mem_of_getElem? (i := 70) rfl)) rfl
theorem dX0_survey_9 : decode cX0_survey 9 = .ok (.istore 4, 2) := by decide +kernel
theorem dX0_survey_11 : decode cX0_survey 11 = .ok (.iconst 0, 1) := by decide +kernel
theorem dX0_survey_12 : decode cX0_survey 12 = .ok (.istore 5, 2) := by decide +kernel
theorem dX0_survey_14 : decode cX0_survey 14 = .ok (.iconst 0, 1) := by decide +kernel
theorem dX0_survey_15 : decode cX0_survey 15 = .ok (.istore 6, 2) := by decide +kernel
theorem dX0_survey_17 : decode cX0_survey 17 = .ok (.iload 6, 2) := by decide +kernel
theorem dX0_survey_19 : decode cX0_survey 19 = .ok (.aload_n 1, 1) := by decide +kernel
theorem dX0_survey_20 : decode cX0_survey 20 = .ok (.getfield 25, 3) := by decide +kernel
theorem nq_2_30 : Cond.fieldLinkNest "WrongHole$Acts" 25 "WrongHole$Lift" "buttons" "I" "WrongHole" ∈ NW := mk_nw (ti_2 (List.mem_of_getElem? (i := 30) rfl)) rfl
theorem dX0_survey_23 : decode cX0_survey 23 = .ok (.if_icmp .ge 92, 3) := by decide +kernel
theorem dX0_survey_115 : decode cX0_survey 115 = .ok (.return_, 1) := by decide +kernel
theorem dX0_survey_26 : decode cX0_survey 26 = .ok (.iload 4, 2) := by decide +kernel
theorem dX0_survey_28 : decode cX0_survey 28 = .ok (.iload 4, 2) := by decide +kernel
theorem dX0_survey_30 : decode cX0_survey 30 = .ok (.ineg, 1) := by decide +kernel
theorem dX0_survey_31 : decode cX0_survey 31 = .ok (.iand, 1) := by decide +kernel
theorem dX0_survey_32 : decode cX0_survey 32 = .ok (.istore 7, 2) := by decide +kernel
theorem dX0_survey_34 : decode cX0_survey 34 = .ok (.iload_n 3, 1) := by decide +kernel
theorem dX0_survey_35 : decode cX0_survey 35 = .ok (.iload 6, 2) := by decide +kernel
theorem dX0_survey_37 : decode cX0_survey 37 = .ok (.ishr, 1) := by decide +kernel
theorem dX0_survey_38 : decode cX0_survey 38 = .ok (.iconst 1, 1) := by decide +kernel
theorem dX0_survey_39 : decode cX0_survey 39 = .ok (.iand, 1) := by decide +kernel
theorem dX0_survey_40 : decode cX0_survey 40 = .ok (.ifCond .eq 30, 3) := by decide +kernel
theorem dX0_survey_109 : decode cX0_survey 109 = .ok (.iinc 6 1, 3) := by decide +kernel
theorem dX0_survey_112 : decode cX0_survey 112 = .ok (.goto (-95), 3) := by decide +kernel
theorem dX0_survey_70 : decode cX0_survey 70 = .ok (.iload 7, 2) := by decide +kernel
theorem dX0_survey_72 : decode cX0_survey 72 = .ok (.ifCond .ne 9, 3) := by decide +kernel
theorem dX0_survey_85 : decode cX0_survey 85 = .ok (.istore 8, 2) := by decide +kernel
theorem dX0_survey_87 : decode cX0_survey 87 = .ok (.aload_n 0, 1) := by decide +kernel
theorem dX0_survey_88 : decode cX0_survey 88 = .ok (.getfield 7, 3) := by decide +kernel
theorem qq_1_162 : Cond.fieldLink "WrongHole$Acts" 7 "WrongHole$Acts" "spots" "[I" ∈ TB := mk_tb (ti_1 (List.mem_of_getElem? (i := 162) rfl)) rfl
theorem dX0_survey_91 : decode cX0_survey 91 = .ok (.iload 6, 2) := by decide +kernel
theorem dX0_survey_93 : decode cX0_survey 93 = .ok (.iload 8, 2) := by decide +kernel
theorem dX0_survey_95 : decode cX0_survey 95 = .ok (.iload 5, 2) := by decide +kernel
theorem dX0_survey_97 : decode cX0_survey 97 = .ok (.iconst (-1), 1) := by decide +kernel
theorem dX0_survey_98 : decode cX0_survey 98 = .ok (.ixor, 1) := by decide +kernel
theorem dX0_survey_99 : decode cX0_survey 99 = .ok (.iand, 1) := by decide +kernel
theorem dX0_survey_100 : decode cX0_survey 100 = .ok (.aload_n 1, 1) := by decide +kernel
theorem dX0_survey_101 : decode cX0_survey 101 = .ok (.getfield 31, 3) := by decide +kernel
theorem nq_2_80 : Cond.fieldLinkNest "WrongHole$Acts" 31 "WrongHole$Lift" "fitting" "[I" "WrongHole" ∈ NW := mk_nw (ti_2 (List.mem_of_getElem? (i := 80) rfl)) rfl
theorem dX0_survey_104 : decode cX0_survey 104 = .ok (.iload 6, 2) := by decide +kernel
theorem dX0_survey_106 : decode cX0_survey 106 = .ok (.iaload, 1) := by decide +kernel
theorem dX0_survey_107 : decode cX0_survey 107 = .ok (.iand, 1) := by decide +kernel
theorem dX0_survey_108 : decode cX0_survey 108 = .ok (.iastore, 1) := by decide +kernel
theorem dX0_survey_81 : decode cX0_survey 81 = .ok (.iload 7, 2) := by decide +kernel
theorem dX0_survey_83 : decode cX0_survey 83 = .ok (.iconst 1, 1) := by decide +kernel
theorem dX0_survey_84 : decode cX0_survey 84 = .ok (.isub, 1) := by decide +kernel
theorem dX0_survey_75 : decode cX0_survey 75 = .ok (.sipush 255, 3) := by decide +kernel
theorem dX0_survey_78 : decode cX0_survey 78 = .ok (.goto 7, 3) := by decide +kernel
theorem dX0_survey_43 : decode cX0_survey 43 = .ok (.aload_n 0, 1) := by decide +kernel
theorem dX0_survey_44 : decode cX0_survey 44 = .ok (.getfield 7, 3) := by decide +kernel
theorem dX0_survey_47 : decode cX0_survey 47 = .ok (.iload 6, 2) := by decide +kernel
theorem dX0_survey_49 : decode cX0_survey 49 = .ok (.iload 7, 2) := by decide +kernel
theorem dX0_survey_51 : decode cX0_survey 51 = .ok (.iastore, 1) := by decide +kernel
theorem dX0_survey_52 : decode cX0_survey 52 = .ok (.iload 4, 2) := by decide +kernel
theorem dX0_survey_54 : decode cX0_survey 54 = .ok (.iload 7, 2) := by decide +kernel
theorem dX0_survey_56 : decode cX0_survey 56 = .ok (.ixor, 1) := by decide +kernel
theorem dX0_survey_57 : decode cX0_survey 57 = .ok (.istore 4, 2) := by decide +kernel
theorem dX0_survey_59 : decode cX0_survey 59 = .ok (.iload 7, 2) := by decide +kernel
theorem dX0_survey_61 : decode cX0_survey 61 = .ok (.iconst 1, 1) := by decide +kernel
theorem dX0_survey_62 : decode cX0_survey 62 = .ok (.ishl, 1) := by decide +kernel
theorem dX0_survey_63 : decode cX0_survey 63 = .ok (.iconst 1, 1) := by decide +kernel
theorem dX0_survey_64 : decode cX0_survey 64 = .ok (.isub, 1) := by decide +kernel
theorem dX0_survey_65 : decode cX0_survey 65 = .ok (.istore 5, 2) := by decide +kernel
theorem dX0_survey_67 : decode cX0_survey 67 = .ok (.goto 42, 3) := by decide +kernel
set_option maxHeartbeats 4000000 in
set_option maxRecDepth 100000 in
theorem c_Acts_survey (l : Launch) (D : va_G) (cs : Nat → ClassId) (X : XX) (sz : Nat) (ha : Nat) (as : Nat) (ad : Nat) (ac : Int32) (gs : Nat → Int32) (gc : Nat → Int32) (hl0 : Nat) (lb : Int32) (lh : Int32) (lg : Int32) (lw : Int32) (lv : Int32) (lbs : Int32) (lti : Int32) (lts : Int32) (le : Int32) (lk : Int32) (la : Int32) (l0 : Nat) (l1 : Nat) (l2 : Nat) (l3 : Nat) (l4 : Nat) (l5 : Nat) (l6 : Nat) (l7 : Nat) (f5 : Nat → Int32) (a : Int32) (r_ac : Rg 0 72 ac) (r_lb : Rg 0 8 lb) (r_lh : Rg 0 8 lh) (r_le : Rg 0 6 le) : Met l yX0_survey (Cond.code yX0_survey cX0_survey 9 none :: TB) (RM 1 0 0) (va_Pc [.ref ha, .ref hl0, .int a] (PRE D cs X [(ha, .inr (0, [.ref as, .ref ad, .int ac])), (as, .inl ((cs 0), 8, .inl gs)), (ad, .inl ((cs 0), 72, .inl gc))] [(hl0, .inr (2, [.int lb, .int lh, .int lg, .int lw, .int lv, .int lbs, .int lti, .int lts, .int le, .int lk, .int la, .ref l0, .ref l1, .ref l2, .ref l3, .ref l4, .ref l5, .ref l6, .ref l7])), (l5, .inl ((cs 0), 8, .inl f5))] sz)) (va_Qv (S := Unit) (fun _ => True) (fun _ t => ∃ (ac2 : Int32), ∃ (gs2 : Nat → Int32), ∃ (gc2 : Nat → Int32), Rg 0 72 ac2 ∧ va_P D vwCl [(ha, .inr (0, [.ref as, .ref ad, .int ac2])), (as, .inl ((cs 0), 8, .inl gs2)), (ad, .inl ((cs 0), 72, .inl gc2))] t.heap ∧ va_D (va_A [(ha, .inr (0, [.ref as, .ref ad, .int ac])), (as, .inl ((cs 0), 8, .inl gs)), (ad, .inl ((cs 0), 72, .inl gc))] sz) [(ha, .inr (0, [.ref as, .ref ad, .int ac2])), (as, .inl ((cs 0), 8, .inl gs2)), (ad, .inl ((cs 0), 72, .inl gc2))]) (va_A [(ha, .inr (0, [.ref as, .ref ad, .int ac])), (as, .inl ((cs 0), 8, .inl gs)), (ad, .inl ((cs 0), 72, .inl gc))] sz)) 0 0 (va_A [(ha, .inr (0, [.ref as, .ref ad, .int ac])), (as, .inl ((cs 0), 8, .inl gs)), (ad, .inl ((cs 0), 72, .inl gc))] sz) := by
  refine MET (y := yX0_survey) (cc := cX0_survey) (maxL := 9) (ret := none) (d := 1) (mc := 0) (ms := 0) (D := D) (cs := cs) (X := X) (ws := [(ha, .inr (0, [.ref as, .ref ad, .int ac])), (as, .inl ((cs 0), 8, .inl gs)), (ad, .inl ((cs 0), 72, .inl gc))]) (wo := [(hl0, .inr (2, [.int lb, .int lh, .int lg, .int lw, .int lv, .int lbs, .int lti, .int lts, .int le, .int lk, .int la, .ref l0, .ref l1, .ref l2, .ref l3, .ref l4, .ref l5, .ref l6, .ref l7])), (l5, .inl ((cs 0), 8, .inl f5))]) (sz := sz) (av := [.ref ha, .ref hl0, .int a]) (Qc := fun A => va_Qv (S := Unit) (fun _ => True) (fun _ t => ∃ (ac2 : Int32), ∃ (gs2 : Nat → Int32), ∃ (gc2 : Nat → Int32), Rg 0 72 ac2 ∧ va_P D vwCl [(ha, .inr (0, [.ref as, .ref ad, .int ac2])), (as, .inl ((cs 0), 8, .inl gs2)), (ad, .inl ((cs 0), 72, .inl gc2))] t.heap ∧ va_D A [(ha, .inr (0, [.ref as, .ref ad, .int ac2])), (as, .inl ((cs 0), 8, .inl gs2)), (ad, .inl ((cs 0), 72, .inl gc2))]) A) (by decide) (Nat.le_of_ble_eq_true rfl) ?_
  intro p e s m below meth c ls A H hHe hx hb hr hml hown hts hlocks hnm hP hK hD hA hS hN hR hX hXs hl
  have hD : va_D A [(ha, .inr (0, [.ref as, .ref ad, .int ac])), (as, .inl ((cs 0), 8, .inl gs)), (ad, .inl ((cs 0), 72, .inl gc))] := hD
  have hPo := hR.at hS
  obtain ⟨locs, hlc⟩ : ∃ z : List Loc, z = [] := ⟨_, rfl⟩
  rw [← hlc] at hS ⊢
  have hown : s.vm.findClass "WrongHole$Acts" = some m.cls := hown
  have hT : ∀ w ∈ TB, w.before ([.ref ha, .ref hl0, .int a] : List Value).toArray s = true := fun w h => hts w (List.mem_cons_of_mem _ h)
  have hl : lv_has ls 9 [(0, .ref ha), (1, .ref hl0), (2, .int a)] := hl
  have hP : va_P D vwCl [(ha, .inr (0, [.ref as, .ref ad, .int ac])), (as, .inl ((cs 0), 8, .inl gs)), (ad, .inl ((cs 0), 72, .inl gc))] H := hP
  refine lv_iload_n hx hb dX0_survey_0 rfl (lv_at hl 2 rfl) ?_
  have hPc := va_P.sub (ws' := []) hP [] rfl
  refine cl_P (W.runS (As := [.int a]) (rest := []) ⟨hx, hb, hml, hown, hts⟩ (c_Rows_in l D cs a) ⟨callB_of 1 hts (gd_C qq_2_230) rfl rfl rfl (hT _ qq_1_16) (hT _ qq_4_69) (by decide +kernel) (rm_R rfl rfl), (hT _ qq_2_229)⟩ (pq_S hPc hK hN) rfl rfl hl.1 rfl (lv_room (Nat.le_of_ble_eq_true rfl)) dX0_survey_1 ⟨Nat.le_of_ble_eq_true rfl, Nat.le_of_ble_eq_true rfl⟩) (fun v9 hz_2 => ?_)
  obtain ⟨x_1, rfl, r_3⟩ := hz_2
  refine lv_istore_n (lv' := [(3, .int x_1), (0, .ref ha), (1, .ref hl0), (2, .int a)]) hx hb dX0_survey_4 rfl hl (by decide) rfl (fun ls hl => ?_)
  refine lv_iload_n hx hb dX0_survey_5 rfl (lv_at hl 3 rfl) ?_
  have hPc := va_P.sub (ws' := []) hP [] rfl
  refine cl_P (W.runS (As := [.int a]) (rest := []) ⟨hx, hb, hml, hown, hts⟩ (c_Rows_held l D cs a) ⟨callB_of 1 hts (gd_C qq_3_0) rfl rfl rfl (hT _ qq_1_16) (hT _ qq_4_70) (by decide +kernel) (rm_R rfl rfl), (hT _ qq_2_239)⟩ (pq_S hPc hK hN) rfl rfl hl.1 rfl (lv_room (Nat.le_of_ble_eq_true rfl)) dX0_survey_6 ⟨Nat.le_of_ble_eq_true rfl, Nat.le_of_ble_eq_true rfl⟩) (fun v9 hz_5 => ?_)
  obtain ⟨x_4, rfl, r_6⟩ := hz_5
  refine lv_istore (lv' := [(4, .int x_4), (3, .int x_1), (0, .ref ha), (1, .ref hl0), (2, .int a)]) hx hb dX0_survey_9 hl (by decide) rfl (fun ls hl => ?_)
  refine lv_iconst (v := 0) hx hb dX0_survey_11 (by decide) ?_
  refine lv_istore (lv' := [(5, .int 0), (4, .int x_4), (3, .int x_1), (0, .ref ha), (1, .ref hl0), (2, .int a)]) hx hb dX0_survey_12 hl (by decide) rfl (fun ls hl => ?_)
  refine lv_iconst (v := 0) hx hb dX0_survey_14 (by decide) ?_
  refine lv_istore (lv' := [(6, .int 0), (5, .int 0), (4, .int x_4), (3, .int x_1), (0, .ref ha), (1, .ref hl0), (2, .int a)]) hx hb dX0_survey_15 hl (by decide) rfl (fun ls hl => ?_)
  refine w_wh (σ := (Int32) × (Int32) × (Int32) × (Nat → Int32)) (fun x9 H locs ls => match x9 with | (v_168, v_169, v_170, g_171) => Rg 0 8 v_168 ∧ va_P D vwCl [(ha, .inr (0, [.ref as, .ref ad, .int ac])), (as, .inl ((cs 0), 8, .inl g_171)), (ad, .inl ((cs 0), 72, .inl gc))] H ∧ va_D A [(ha, .inr (0, [.ref as, .ref ad, .int ac])), (as, .inl ((cs 0), 8, .inl g_171)), (ad, .inl ((cs 0), 72, .inl gc))] ∧ va_S A s.heap H locs ∧ lv_has ls 9 [(6, .int v_168), (5, .int v_169), (4, .int v_170), (3, .int x_1), (0, .ref ha), (1, .ref hl0), (2, .int a)]) (fun x9 => match x9 with | (v_168, v_169, v_170, g_171) => (8 - Int32.toInt v_168).toNat) 17 ?_ (0, 0, x_4, gs) H locs ls ⟨(Rg.wk (lo2 := 0) (hi2 := 8) (Rg.c (c := 0) (k := 0) rfl) (by decide)), hP, hD, hS, lv_sub hl [0, 1, 2, 3, 4, 5, 6] rfl⟩
  rintro ⟨v_168, v_169, v_170, g_171⟩ H locs ls ⟨r_1188, hP, hD, hS, hl⟩ ih_1187
  have hPo := hR.at hS
  refine lv_iload hx hb dX0_survey_17 (lv_at hl 0 rfl) ?_
  refine lv_aload_n hx hb dX0_survey_19 rfl (lv_at hl 5 rfl) ?_
  refine va_getN (D := D) (ci := 2) (v := .int lb) (C := "WrongHole$Lift") (T := TX2) (N := 19) hx hb hts (iq_RX2 _) hown hK hPo 0 rfl rfl 0 (by decide) (NN.f hN nq_2_30) (fun _ h9 => h9) rfl dX0_survey_20 ?_
  refine lv_icmp_ge (tgt := 115) hx hb dX0_survey_23 (by decide) (fun c_1189 => ?_) (fun c_1189 => ?_)
  · refine W.widen (k := 0) (n := 0) (Nat.le_of_ble_eq_true rfl) (Nat.le_of_ble_eq_true rfl) ?_
    have hP9 := hP.sub (ws' := [(ha, .inr (0, [.ref as, .ref ad, .int ac])), (as, .inl ((cs 0), 8, .inl g_171)), (ad, .inl ((cs 0), 72, .inl gc))]) [0, 1, 2] rfl
    have hD9 := hD.sub (ws' := [(ha, .inr (0, [.ref as, .ref ad, .int ac])), (as, .inl ((cs 0), 8, .inl g_171)), (ad, .inl ((cs 0), 72, .inl gc))]) [0, 1, 2] (by decide) rfl
    exact W.vret hx hb hr (fun t9 ht9 hW9 => ⟨⟨(), rfl, trivial, ⟨ac, g_171, gc, r_ac, by rw [ht9]; exact hP9, hD9⟩⟩, hS.F ht9⟩) hS.2.2 dX0_survey_115
  · have r_1190 : Rg 0 7 v_168 := Rg.lt_l (nle_lt c_1189) r_1188 r_lb (by decide)
    have r_1191 : Rg 1 8 lb := Rg.lt_r (nle_lt c_1189) r_1188 r_lb (by decide)
    refine lv_iload hx hb dX0_survey_26 (lv_at hl 2 rfl) ?_
    refine lv_iload hx hb dX0_survey_28 (lv_at hl 2 rfl) ?_
    refine lv_ineg hx hb dX0_survey_30 ?_
    refine lv_topi (fun x_1263 e_1264 => ?_)
    refine lv_iand hx hb dX0_survey_31 ?_
    refine lv_topi (fun x_1265 e_1266 => ?_)
    refine lv_istore (lv' := [(7, .int x_1265), (6, .int v_168), (5, .int v_169), (4, .int v_170), (3, .int x_1), (0, .ref ha), (1, .ref hl0), (2, .int a)]) hx hb dX0_survey_32 hl (by decide) rfl (fun ls hl => ?_)
    refine lv_iload_n hx hb dX0_survey_34 rfl (lv_at hl 4 rfl) ?_
    refine lv_iload hx hb dX0_survey_35 (lv_at hl 1 rfl) ?_
    refine lv_ishr hx hb dX0_survey_37 ?_
    refine lv_topi (fun x_1267 e_1268 => ?_)
    have r_1269 : Rg 0 255 x_1267 := Rg.shrn e_1268 r_3
    refine lv_iconst (v := 1) hx hb dX0_survey_38 (by decide) ?_
    refine lv_iand hx hb dX0_survey_39 ?_
    refine lv_topi (fun x_1270 e_1271 => ?_)
    have r_1272 : Rg 0 1 x_1270 := Rg.and e_1271 (Rg.c (c := 1) (k := 1) rfl) (by decide)
    refine w_cut (σ := (Int32) × (Int32) × (Nat → Int32)) (fun x9 H locs ls => match x9 with | (v_1302, v_1303, g_1304) => va_P D vwCl [(ha, .inr (0, [.ref as, .ref ad, .int ac])), (as, .inl ((cs 0), 8, .inl g_1304)), (ad, .inl ((cs 0), 72, .inl gc))] H ∧ va_D A [(ha, .inr (0, [.ref as, .ref ad, .int ac])), (as, .inl ((cs 0), 8, .inl g_1304)), (ad, .inl ((cs 0), 72, .inl gc))] ∧ va_S A s.heap H locs ∧ lv_has ls 9 [(7, .int x_1265), (6, .int v_168), (5, .int v_1302), (4, .int v_1303), (3, .int x_1), (0, .ref ha), (1, .ref hl0), (2, .int a)]) 109 (fun x9 => match x9 with | (v_1302, v_1303, g_1304) => []) ?_ (fun hj_1305 => ?_)
    · rintro ⟨v_1302, v_1303, g_1304⟩ H locs ls ⟨hP, hD, hS, hl⟩
      have hPo := hR.at hS
      obtain ⟨x_1306, e_1307⟩ : ∃ z : Int32, z = v_168 + Int32.ofInt 1 := ⟨_, rfl⟩
      have r_1308 : Rg 1 8 x_1306 := Rg.add e_1307 r_1190 (Rg.c (c := Int32.ofInt 1) (k := 1) rfl) (by decide)
      refine lv_iinc (v := x_1306) (lv' := [(6, .int x_1306), (7, .int x_1265), (5, .int v_1302), (4, .int v_1303), (3, .int x_1), (0, .ref ha), (1, .ref hl0), (2, .int a)]) hx hb dX0_survey_109 hl (k := 1) rfl (e_1307.symm) (by decide) rfl (fun ls hl => ?_)
      refine lv_goto (tgt := 17) hx hb dX0_survey_112 (by decide) ?_
      exact ih_1187 (x_1306, v_1302, v_1303, g_1304) _ _ _ ⟨(Rg.wk (lo2 := 0) (hi2 := 8) r_1308 (by decide)), hP, hD, hS, lv_sub hl [0, 2, 3, 4, 5, 6, 7] rfl⟩ (ms_up e_1307 r_1190 (Rg.c (c := Int32.ofInt 1) (k := 1) rfl) (by decide))
    · refine lv_if_eq (tgt := 70) hx hb dX0_survey_40 (by decide) (fun c_1273 => ?_) (fun c_1273 => ?_)
      · have r_1274 : Rg 0 0 x_1270 := Rg.eq_l c_1273 r_1272 (Rg.c (c := 0) (k := 0) rfl) (by decide)
        refine lv_iload hx hb dX0_survey_70 (lv_at hl 0 rfl) ?_
        refine w_cut (σ := (Int32)) (fun (v_1313 : Int32) H locs ls => va_P D vwCl [(ha, .inr (0, [.ref as, .ref ad, .int ac])), (as, .inl ((cs 0), 8, .inl g_171)), (ad, .inl ((cs 0), 72, .inl gc))] H ∧ va_D A [(ha, .inr (0, [.ref as, .ref ad, .int ac])), (as, .inl ((cs 0), 8, .inl g_171)), (ad, .inl ((cs 0), 72, .inl gc))] ∧ va_S A s.heap H locs ∧ lv_has ls 9 [(7, .int x_1265), (6, .int v_168), (5, .int v_169), (4, .int v_170), (3, .int x_1), (0, .ref ha), (1, .ref hl0), (2, .int a)]) 85 (fun (v_1313 : Int32) => [.int v_1313]) ?_ (fun hj_1314 => ?_)
        · rintro v_1313 H locs ls ⟨hP, hD, hS, hl⟩
          have hPo := hR.at hS
          refine lv_istore (lv' := [(8, .int v_1313), (7, .int x_1265), (6, .int v_168), (5, .int v_169), (4, .int v_170), (3, .int x_1), (0, .ref ha), (1, .ref hl0), (2, .int a)]) hx hb dX0_survey_85 hl (by decide) rfl (fun ls hl => ?_)
          refine lv_aload_n hx hb dX0_survey_87 rfl (lv_at hl 6 rfl) ?_
          refine va_get (D := D) (ci := 0) (v := .ref as) (C := "WrongHole$Acts") (T := TX0) (N := 3) hx hb hts (iq_RX0 _) hown hK hP 0 rfl rfl 0 (by decide) (hT _ qq_1_162) (fun _ h9 => h9) rfl dX0_survey_88 ?_
          refine lv_iload hx hb dX0_survey_91 (lv_at hl 2 rfl) ?_
          refine lv_iload hx hb dX0_survey_93 (lv_at hl 0 rfl) ?_
          refine lv_iload hx hb dX0_survey_95 (lv_at hl 3 rfl) ?_
          refine lv_iconst (v := (-1)) hx hb dX0_survey_97 (by decide) ?_
          refine lv_ixor hx hb dX0_survey_98 ?_
          refine lv_topi (fun x_1315 e_1316 => ?_)
          refine lv_iand hx hb dX0_survey_99 ?_
          refine lv_topi (fun x_1317 e_1318 => ?_)
          refine lv_aload_n hx hb dX0_survey_100 rfl (lv_at hl 7 rfl) ?_
          refine va_getN (D := D) (ci := 2) (v := .ref l5) (C := "WrongHole$Lift") (T := TX2) (N := 19) hx hb hts (iq_RX2 _) hown hK hPo 0 rfl rfl 16 (by decide) (NN.f hN nq_2_80) (fun _ h9 => h9) rfl dX0_survey_101 ?_
          refine lv_iload hx hb dX0_survey_104 (lv_at hl 2 rfl) ?_
          have hi_1319 : vp_in v_168 8 := Rg.in r_1190 (by decide)
          refine va_iald hx hb hK hPo 1 0 rfl rfl hi_1319 dX0_survey_106 ?_
          refine lv_topi (fun x_1320 e_1321 => ?_)
          refine lv_iand hx hb dX0_survey_107 ?_
          refine lv_topi (fun x_1322 e_1323 => ?_)
          have hi_1324 : vp_in v_168 8 := Rg.in r_1190 (by decide)
          refine va_iast hx hb hK hP hD hS 1 0 rfl rfl hi_1324 dX0_survey_108 (fun H locs hP hD hS => ?_)
          obtain ⟨g_1325, hP, hD⟩ : ∃ g_1325 : Nat → Int32, va_P D vwCl [(ha, .inr (0, [.ref as, .ref ad, .int ac])), (as, .inl ((cs 0), 8, .inl g_1325)), (ad, .inl ((cs 0), 72, .inl gc))] H ∧ va_D A [(ha, .inr (0, [.ref as, .ref ad, .int ac])), (as, .inl ((cs 0), 8, .inl g_1325)), (ad, .inl ((cs 0), 72, .inl gc))] := ⟨_, hP, hD⟩
          have hPo := hR.at hS
          exact hj_1305 (v_169, v_170, g_1325) _ _ _ ⟨hP, hD, hS, lv_sub hl [1, 2, 3, 4, 5, 6, 7, 8] rfl⟩
        · refine lv_if_ne (tgt := 81) hx hb dX0_survey_72 (by decide) (fun c_1309 => ?_) (fun c_1309 => ?_)
          · refine lv_iload hx hb dX0_survey_81 (lv_at hl 0 rfl) ?_
            refine lv_iconst (v := 1) hx hb dX0_survey_83 (by decide) ?_
            refine lv_isub hx hb dX0_survey_84 ?_
            refine lv_topi (fun x_1326 e_1327 => ?_)
            exact hj_1314 x_1326 _ _ _ ⟨hP, hD, hS, lv_sub hl [0, 1, 2, 3, 4, 5, 6, 7] rfl⟩
          · have r_1310 : Rg 0 0 x_1265 := Rg.eq_l c_1309 (Rg.top x_1265) (Rg.c (c := 0) (k := 0) rfl) (by decide)
            refine lv_sipush (v := 255) hx hb dX0_survey_75 (by decide) ?_
            refine lv_goto (tgt := 85) hx hb dX0_survey_78 (by decide) ?_
            exact hj_1314 255 _ _ _ ⟨hP, hD, hS, lv_sub hl [0, 1, 2, 3, 4, 5, 6, 7] rfl⟩
      · have r_1275 : Rg 1 1 x_1270 := Rg.ne c_1273 r_1272 (Rg.c (c := 0) (k := 0) rfl) (by decide)
        refine lv_aload_n hx hb dX0_survey_43 rfl (lv_at hl 5 rfl) ?_
        refine va_get (D := D) (ci := 0) (v := .ref as) (C := "WrongHole$Acts") (T := TX0) (N := 3) hx hb hts (iq_RX0 _) hown hK hP 0 rfl rfl 0 (by decide) (hT _ qq_1_162) (fun _ h9 => h9) rfl dX0_survey_44 ?_
        refine lv_iload hx hb dX0_survey_47 (lv_at hl 1 rfl) ?_
        refine lv_iload hx hb dX0_survey_49 (lv_at hl 0 rfl) ?_
        have hi_1328 : vp_in v_168 8 := Rg.in r_1190 (by decide)
        refine va_iast hx hb hK hP hD hS 1 0 rfl rfl hi_1328 dX0_survey_51 (fun H locs hP hD hS => ?_)
        obtain ⟨g_1329, hP, hD⟩ : ∃ g_1329 : Nat → Int32, va_P D vwCl [(ha, .inr (0, [.ref as, .ref ad, .int ac])), (as, .inl ((cs 0), 8, .inl g_1329)), (ad, .inl ((cs 0), 72, .inl gc))] H ∧ va_D A [(ha, .inr (0, [.ref as, .ref ad, .int ac])), (as, .inl ((cs 0), 8, .inl g_1329)), (ad, .inl ((cs 0), 72, .inl gc))] := ⟨_, hP, hD⟩
        have hPo := hR.at hS
        refine lv_iload hx hb dX0_survey_52 (lv_at hl 3 rfl) ?_
        refine lv_iload hx hb dX0_survey_54 (lv_at hl 0 rfl) ?_
        refine lv_ixor hx hb dX0_survey_56 ?_
        refine lv_topi (fun x_1330 e_1331 => ?_)
        refine lv_istore (lv' := [(4, .int x_1330), (7, .int x_1265), (6, .int v_168), (5, .int v_169), (3, .int x_1), (0, .ref ha), (1, .ref hl0), (2, .int a)]) hx hb dX0_survey_57 hl (by decide) rfl (fun ls hl => ?_)
        refine lv_iload hx hb dX0_survey_59 (lv_at hl 1 rfl) ?_
        refine lv_iconst (v := 1) hx hb dX0_survey_61 (by decide) ?_
        refine lv_ishl hx hb dX0_survey_62 ?_
        refine lv_topi (fun x_1332 e_1333 => ?_)
        refine lv_iconst (v := 1) hx hb dX0_survey_63 (by decide) ?_
        refine lv_isub hx hb dX0_survey_64 ?_
        refine lv_topi (fun x_1334 e_1335 => ?_)
        refine lv_istore (lv' := [(5, .int x_1334), (4, .int x_1330), (7, .int x_1265), (6, .int v_168), (3, .int x_1), (0, .ref ha), (1, .ref hl0), (2, .int a)]) hx hb dX0_survey_65 hl (by decide) rfl (fun ls hl => ?_)
        refine lv_goto (tgt := 109) hx hb dX0_survey_67 (by decide) ?_
        exact hj_1305 (x_1334, x_1330, g_1329) _ _ _ ⟨hP, hD, hS, lv_sub hl [2, 3, 0, 1, 4, 5, 6, 7] rfl⟩
theorem dX0_gather_0 : decode cX0_gather 0 = .ok (.aload_n 0, 1) := by decide +kernel
theorem dX0_gather_1 : decode cX0_gather 1 = .ok (.aload_n 1, 1) := by decide +kernel
theorem dX0_gather_2 : decode cX0_gather 2 = .ok (.iload_n 2, 1) := by decide +kernel
theorem dX0_gather_3 : decode cX0_gather 3 = .ok (.invokevirtual 34, 3) := by decide +kernel
theorem qq_4_68 : Cond.code yX0_survey cX0_survey 9 none ∈ TB := mk_tb (ti_4 (List.mem_of_getElem? (i := 68) rfl)) rfl
theorem qq_1_7 : Cond.initialized "WrongHole$Acts" ∈ TB := mk_tb (ti_1 (List.mem_of_getElem? (i := 7) rfl)) rfl
theorem qq_4_65 : Cond.methodLink "WrongHole$Acts" 34 yX0_survey ∈ TB := mk_tb (ti_4 (List.mem_of_getElem? (i := 65) rfl)) rfl
theorem qq_4_66 : Cond.instanceMethod yX0_survey ∈ TB := mk_tb (ti_4 (List.mem_of_getElem? (i := 66) rfl)) rfl
theorem qq_4_67 : Cond.selects "WrongHole$Acts" yX0_survey yX0_survey ∈ TB := mk_tb (ti_4 (List.mem_of_getElem? (i := 67) rfl)) rfl
theorem dX0_gather_6 : decode cX0_gather 6 = .ok (.aload_n 0, 1) := by decide +kernel
theorem dX0_gather_7 : decode cX0_gather 7 = .ok (.iconst 0, 1) := by decide +kernel
theorem dX0_gather_8 : decode cX0_gather 8 = .ok (.putfield 38, 3) := by decide +kernel
theorem dX0_gather_11 : decode cX0_gather 11 = .ok (.iload_n 2, 1) := by decide +kernel
theorem dX0_gather_12 : decode cX0_gather 12 = .ok (.invokestatic 16, 3) := by decide +kernel
theorem dX0_gather_15 : decode cX0_gather 15 = .ok (.istore_n 3, 1) := by decide +kernel
theorem dX0_gather_16 : decode cX0_gather 16 = .ok (.iconst 0, 1) := by decide +kernel
theorem dX0_gather_17 : decode cX0_gather 17 = .ok (.istore 4, 2) := by decide +kernel
theorem dX0_gather_19 : decode cX0_gather 19 = .ok (.iload 4, 2) := by decide +kernel
theorem dX0_gather_21 : decode cX0_gather 21 = .ok (.aload_n 1, 1) := by decide +kernel
theorem dX0_gather_22 : decode cX0_gather 22 = .ok (.getfield 25, 3) := by decide +kernel
theorem dX0_gather_25 : decode cX0_gather 25 = .ok (.if_icmp .ge 47, 3) := by decide +kernel
theorem dX0_gather_72 : decode cX0_gather 72 = .ok (.iconst 0, 1) := by decide +kernel
theorem dX0_gather_73 : decode cX0_gather 73 = .ok (.istore 4, 2) := by decide +kernel
theorem dX0_gather_75 : decode cX0_gather 75 = .ok (.iload 4, 2) := by decide +kernel
theorem dX0_gather_77 : decode cX0_gather 77 = .ok (.aload_n 1, 1) := by decide +kernel
theorem dX0_gather_78 : decode cX0_gather 78 = .ok (.getfield 25, 3) := by decide +kernel
theorem dX0_gather_81 : decode cX0_gather 81 = .ok (.if_icmp .ge 67, 3) := by decide +kernel
theorem dX0_gather_148 : decode cX0_gather 148 = .ok (.return_, 1) := by decide +kernel
theorem dX0_gather_84 : decode cX0_gather 84 = .ok (.iload_n 3, 1) := by decide +kernel
theorem dX0_gather_85 : decode cX0_gather 85 = .ok (.iload 4, 2) := by decide +kernel
theorem dX0_gather_87 : decode cX0_gather 87 = .ok (.ishr, 1) := by decide +kernel
theorem dX0_gather_88 : decode cX0_gather 88 = .ok (.iconst 1, 1) := by decide +kernel
theorem dX0_gather_89 : decode cX0_gather 89 = .ok (.iand, 1) := by decide +kernel
theorem dX0_gather_90 : decode cX0_gather 90 = .ok (.ifCond .ne 17, 3) := by decide +kernel
theorem dX0_gather_108 : decode cX0_gather 108 = .ok (.istore 5, 2) := by decide +kernel
theorem dX0_gather_110 : decode cX0_gather 110 = .ok (.iload 5, 2) := by decide +kernel
theorem dX0_gather_112 : decode cX0_gather 112 = .ok (.ifCond .eq 30, 3) := by decide +kernel
theorem dX0_gather_142 : decode cX0_gather 142 = .ok (.iinc 4 1, 3) := by decide +kernel
theorem dX0_gather_145 : decode cX0_gather 145 = .ok (.goto (-70), 3) := by decide +kernel
theorem dX0_gather_115 : decode cX0_gather 115 = .ok (.aload_n 1, 1) := by decide +kernel
theorem dX0_gather_116 : decode cX0_gather 116 = .ok (.iload_n 3, 1) := by decide +kernel
theorem dX0_gather_117 : decode cX0_gather 117 = .ok (.iconst 1, 1) := by decide +kernel
theorem dX0_gather_118 : decode cX0_gather 118 = .ok (.iload 4, 2) := by decide +kernel
theorem dX0_gather_120 : decode cX0_gather 120 = .ok (.ishl, 1) := by decide +kernel
theorem dX0_gather_121 : decode cX0_gather 121 = .ok (.ior, 1) := by decide +kernel
theorem dX0_gather_122 : decode cX0_gather 122 = .ok (.invokevirtual 41, 3) := by decide +kernel
theorem qq_4_71 : Cond.methodLink "WrongHole$Acts" 41 yX2_lawful ∈ TB := mk_tb (ti_4 (List.mem_of_getElem? (i := 71) rfl)) rfl
theorem dX0_gather_125 : decode cX0_gather 125 = .ok (.ifCond .eq 17, 3) := by decide +kernel
theorem dX0_gather_128 : decode cX0_gather 128 = .ok (.aload_n 0, 1) := by decide +kernel
theorem dX0_gather_129 : decode cX0_gather 129 = .ok (.iconst 1, 1) := by decide +kernel
theorem dX0_gather_130 : decode cX0_gather 130 = .ok (.iload 4, 2) := by decide +kernel
theorem dX0_gather_132 : decode cX0_gather 132 = .ok (.aload_n 0, 1) := by decide +kernel
theorem dX0_gather_133 : decode cX0_gather 133 = .ok (.getfield 7, 3) := by decide +kernel
theorem dX0_gather_136 : decode cX0_gather 136 = .ok (.iload 4, 2) := by decide +kernel
theorem dX0_gather_138 : decode cX0_gather 138 = .ok (.iaload, 1) := by decide +kernel
theorem dX0_gather_139 : decode cX0_gather 139 = .ok (.invokevirtual 45, 3) := by decide +kernel
theorem qq_4_75 : Cond.code yX0_add cX0_add 5 none ∈ TB := mk_tb (ti_4 (List.mem_of_getElem? (i := 75) rfl)) rfl
theorem qq_4_72 : Cond.methodLink "WrongHole$Acts" 45 yX0_add ∈ TB := mk_tb (ti_4 (List.mem_of_getElem? (i := 72) rfl)) rfl
theorem qq_4_74 : Cond.instanceMethod yX0_add ∈ TB := mk_tb (ti_4 (List.mem_of_getElem? (i := 74) rfl)) rfl
theorem qs_0_13 : Cond.selects "WrongHole$Acts" yX0_add yX0_add ∈ TB := mk_tb (ti_s (q := (yX0_add, 3)) (List.mem_append_left _ (List.mem_of_getElem? (i := 13) rfl))) rfl
theorem dX0_gather_107 : decode cX0_gather 107 = .ok (.iconst 0, 1) := by decide +kernel
theorem dX0_gather_93 : decode cX0_gather 93 = .ok (.aload_n 0, 1) := by decide +kernel
theorem dX0_gather_94 : decode cX0_gather 94 = .ok (.getfield 7, 3) := by decide +kernel
theorem dX0_gather_97 : decode cX0_gather 97 = .ok (.iload 4, 2) := by decide +kernel
theorem dX0_gather_99 : decode cX0_gather 99 = .ok (.iaload, 1) := by decide +kernel
theorem dX0_gather_100 : decode cX0_gather 100 = .ok (.ifCond .eq 7, 3) := by decide +kernel
theorem dX0_gather_103 : decode cX0_gather 103 = .ok (.iconst 1, 1) := by decide +kernel
theorem dX0_gather_104 : decode cX0_gather 104 = .ok (.goto 4, 3) := by decide +kernel
theorem dX0_gather_28 : decode cX0_gather 28 = .ok (.iload_n 3, 1) := by decide +kernel
theorem dX0_gather_29 : decode cX0_gather 29 = .ok (.iload 4, 2) := by decide +kernel
theorem dX0_gather_31 : decode cX0_gather 31 = .ok (.ishr, 1) := by decide +kernel
theorem dX0_gather_32 : decode cX0_gather 32 = .ok (.iconst 1, 1) := by decide +kernel
theorem dX0_gather_33 : decode cX0_gather 33 = .ok (.iand, 1) := by decide +kernel
theorem dX0_gather_34 : decode cX0_gather 34 = .ok (.ifCond .eq 32, 3) := by decide +kernel
theorem dX0_gather_66 : decode cX0_gather 66 = .ok (.iinc 4 1, 3) := by decide +kernel
theorem dX0_gather_69 : decode cX0_gather 69 = .ok (.goto (-50), 3) := by decide +kernel
theorem dX0_gather_37 : decode cX0_gather 37 = .ok (.aload_n 1, 1) := by decide +kernel
theorem dX0_gather_38 : decode cX0_gather 38 = .ok (.iload_n 3, 1) := by decide +kernel
theorem dX0_gather_39 : decode cX0_gather 39 = .ok (.iconst 1, 1) := by decide +kernel
theorem dX0_gather_40 : decode cX0_gather 40 = .ok (.iload 4, 2) := by decide +kernel
theorem dX0_gather_42 : decode cX0_gather 42 = .ok (.ishl, 1) := by decide +kernel
theorem dX0_gather_43 : decode cX0_gather 43 = .ok (.iconst (-1), 1) := by decide +kernel
theorem dX0_gather_44 : decode cX0_gather 44 = .ok (.ixor, 1) := by decide +kernel
theorem dX0_gather_45 : decode cX0_gather 45 = .ok (.iand, 1) := by decide +kernel
theorem dX0_gather_46 : decode cX0_gather 46 = .ok (.invokevirtual 41, 3) := by decide +kernel
theorem dX0_gather_49 : decode cX0_gather 49 = .ok (.ifCond .eq 17, 3) := by decide +kernel
theorem dX0_gather_52 : decode cX0_gather 52 = .ok (.aload_n 0, 1) := by decide +kernel
theorem dX0_gather_53 : decode cX0_gather 53 = .ok (.iconst 0, 1) := by decide +kernel
theorem dX0_gather_54 : decode cX0_gather 54 = .ok (.iload 4, 2) := by decide +kernel
theorem dX0_gather_56 : decode cX0_gather 56 = .ok (.aload_n 0, 1) := by decide +kernel
theorem dX0_gather_57 : decode cX0_gather 57 = .ok (.getfield 7, 3) := by decide +kernel
theorem dX0_gather_60 : decode cX0_gather 60 = .ok (.iload 4, 2) := by decide +kernel
theorem dX0_gather_62 : decode cX0_gather 62 = .ok (.iaload, 1) := by decide +kernel
theorem dX0_gather_63 : decode cX0_gather 63 = .ok (.invokevirtual 45, 3) := by decide +kernel
set_option maxHeartbeats 4000000 in
set_option maxRecDepth 100000 in
theorem c_Acts_gather (l : Launch) (D : va_G) (cs : Nat → ClassId) (X : XX) (sz : Nat) (ha : Nat) (as : Nat) (ad : Nat) (ac : Int32) (gs : Nat → Int32) (gc : Nat → Int32) (hl0 : Nat) (lb : Int32) (lh : Int32) (lg : Int32) (lw : Int32) (lv : Int32) (lbs : Int32) (lti : Int32) (lts : Int32) (le : Int32) (lk : Int32) (la : Int32) (l0 : Nat) (l1 : Nat) (l2 : Nat) (l3 : Nat) (l4 : Nat) (l5 : Nat) (l6 : Nat) (l7 : Nat) (f5 : Nat → Int32) (a : Int32) (r_ac : Rg 0 72 ac) (r_lb : Rg 0 8 lb) (r_lh : Rg 0 8 lh) (r_le : Rg 0 6 le) : Met l yX0_gather (Cond.code yX0_gather cX0_gather 6 none :: TB) (RM 2 0 0) (va_Pc [.ref ha, .ref hl0, .int a] (PRE D cs X [(ha, .inr (0, [.ref as, .ref ad, .int ac])), (as, .inl ((cs 0), 8, .inl gs)), (ad, .inl ((cs 0), 72, .inl gc))] [(hl0, .inr (2, [.int lb, .int lh, .int lg, .int lw, .int lv, .int lbs, .int lti, .int lts, .int le, .int lk, .int la, .ref l0, .ref l1, .ref l2, .ref l3, .ref l4, .ref l5, .ref l6, .ref l7])), (l5, .inl ((cs 0), 8, .inl f5))] sz)) (va_Qv (S := Unit) (fun _ => True) (fun _ t => ∃ (ac2 : Int32), ∃ (gs2 : Nat → Int32), ∃ (gc2 : Nat → Int32), Rg 0 72 ac2 ∧ va_P D vwCl [(ha, .inr (0, [.ref as, .ref ad, .int ac2])), (as, .inl ((cs 0), 8, .inl gs2)), (ad, .inl ((cs 0), 72, .inl gc2))] t.heap ∧ va_D (va_A [(ha, .inr (0, [.ref as, .ref ad, .int ac])), (as, .inl ((cs 0), 8, .inl gs)), (ad, .inl ((cs 0), 72, .inl gc))] sz) [(ha, .inr (0, [.ref as, .ref ad, .int ac2])), (as, .inl ((cs 0), 8, .inl gs2)), (ad, .inl ((cs 0), 72, .inl gc2))]) (va_A [(ha, .inr (0, [.ref as, .ref ad, .int ac])), (as, .inl ((cs 0), 8, .inl gs)), (ad, .inl ((cs 0), 72, .inl gc))] sz)) 0 0 (va_A [(ha, .inr (0, [.ref as, .ref ad, .int ac])), (as, .inl ((cs 0), 8, .inl gs)), (ad, .inl ((cs 0), 72, .inl gc))] sz) := by
  refine MET (y := yX0_gather) (cc := cX0_gather) (maxL := 6) (ret := none) (d := 2) (mc := 0) (ms := 0) (D := D) (cs := cs) (X := X) (ws := [(ha, .inr (0, [.ref as, .ref ad, .int ac])), (as, .inl ((cs 0), 8, .inl gs)), (ad, .inl ((cs 0), 72, .inl gc))]) (wo := [(hl0, .inr (2, [.int lb, .int lh, .int lg, .int lw, .int lv, .int lbs, .int lti, .int lts, .int le, .int lk, .int la, .ref l0, .ref l1, .ref l2, .ref l3, .ref l4, .ref l5, .ref l6, .ref l7])), (l5, .inl ((cs 0), 8, .inl f5))]) (sz := sz) (av := [.ref ha, .ref hl0, .int a]) (Qc := fun A => va_Qv (S := Unit) (fun _ => True) (fun _ t => ∃ (ac2 : Int32), ∃ (gs2 : Nat → Int32), ∃ (gc2 : Nat → Int32), Rg 0 72 ac2 ∧ va_P D vwCl [(ha, .inr (0, [.ref as, .ref ad, .int ac2])), (as, .inl ((cs 0), 8, .inl gs2)), (ad, .inl ((cs 0), 72, .inl gc2))] t.heap ∧ va_D A [(ha, .inr (0, [.ref as, .ref ad, .int ac2])), (as, .inl ((cs 0), 8, .inl gs2)), (ad, .inl ((cs 0), 72, .inl gc2))]) A) (by decide) (Nat.le_of_ble_eq_true rfl) ?_
  intro p e s m below meth c ls A H hHe hx hb hr hml hown hts hlocks hnm hP hK hD hA hS hN hR hX hXs hl
  have hD : va_D A [(ha, .inr (0, [.ref as, .ref ad, .int ac])), (as, .inl ((cs 0), 8, .inl gs)), (ad, .inl ((cs 0), 72, .inl gc))] := hD
  have hPo := hR.at hS
  obtain ⟨locs, hlc⟩ : ∃ z : List Loc, z = [] := ⟨_, rfl⟩
  rw [← hlc] at hS ⊢
  have hown : s.vm.findClass "WrongHole$Acts" = some m.cls := hown
  have hT : ∀ w ∈ TB, w.before ([.ref ha, .ref hl0, .int a] : List Value).toArray s = true := fun w h => hts w (List.mem_cons_of_mem _ h)
  have hl : lv_has ls 6 [(0, .ref ha), (1, .ref hl0), (2, .int a)] := hl
  have hP : va_P D vwCl [(ha, .inr (0, [.ref as, .ref ad, .int ac])), (as, .inl ((cs 0), 8, .inl gs)), (ad, .inl ((cs 0), 72, .inl gc))] H := hP
  refine lv_aload_n hx hb dX0_gather_0 rfl (lv_at hl 0 rfl) ?_
  refine lv_aload_n hx hb dX0_gather_1 rfl (lv_at hl 1 rfl) ?_
  refine lv_iload_n hx hb dX0_gather_2 rfl (lv_at hl 2 rfl) ?_
  have hPc := hP.sub (ws' := [(ha, .inr (0, [.ref as, .ref ad, .int ac])), (as, .inl ((cs 0), 8, .inl gs)), (ad, .inl ((cs 0), 72, .inl gc))]) [0, 1, 2] rfl
  have hDc := hD.sub (ws' := [(ha, .inr (0, [.ref as, .ref ad, .int ac])), (as, .inl ((cs 0), 8, .inl gs)), (ad, .inl ((cs 0), 72, .inl gc))]) [0, 1, 2] (by decide) rfl
  have hFc := va_free (wc := [(ha, .inr (0, [.ref as, .ref ad, .int ac])), (as, .inl ((cs 0), 8, .inl gs)), (ad, .inl ((cs 0), 72, .inl gc))]) hD hS hA [0, 1, 2] rfl
  refine va_callv (va_runV (As := [.ref hl0, .int a]) (rest := []) ⟨hx, hb, hml, hown, hts⟩ (c_Acts_survey l D cs X H.size ha as ad ac gs gc hl0 lb lh lg lw lv lbs lti lts le lk la l0 l1 l2 l3 l4 l5 l6 l7 f5 a r_ac r_lb r_lh r_le) ⟨callB_of 2 hts (gd_C qq_4_68) rfl rfl rfl (hT _ qq_1_7) (hT _ qq_4_65) (by decide +kernel) (rm_R rfl rfl), (hT _ qq_4_66), (hT _ qq_4_67)⟩ (pr_V hPc hK hDc hN (hR.sub (wo' := [(hl0, .inr (2, [.int lb, .int lh, .int lg, .int lw, .int lv, .int lbs, .int lti, .int lts, .int le, .int lk, .int la, .ref l0, .ref l1, .ref l2, .ref l3, .ref l4, .ref l5, .ref l6, .ref l7])), (l5, .inl ((cs 0), 8, .inl f5))]) [0, 1] rfl) hS hFc hX hXs (ci := 0) (q0 := 0) rfl rfl) rfl rfl hl.1 rfl (lv_room (Nat.le_of_ble_eq_true rfl)) dX0_gather_3 ⟨Nat.le_of_ble_eq_true rfl, Nat.le_of_ble_eq_true rfl⟩) hS (fun q _ h => hFc q h) hFc (fun u_1 t_4 H1 locs ht9 hvm hw_2 hB_3 hz1 hk1 hS => ?_)
  obtain ⟨v_6, g_7, g_8, r_9, hP1, hD1⟩ := hB_3
  rw [ht9] at hP1
  obtain ⟨hP, hD⟩ := va_join (wr := []) (w1 := [(ha, .inr (0, [.ref as, .ref ad, .int v_6])), (as, .inl ((cs 0), 8, .inl g_7)), (ad, .inl ((cs 0), 72, .inl g_8))]) hP hD [0, 1, 2] [] rfl rfl (by decide) (by decide) hk1 hFc hP1 hD1
  generalize H1 = H at hP hS ⊢
  have hP : va_P D vwCl [(ha, .inr (0, [.ref as, .ref ad, .int v_6])), (as, .inl ((cs 0), 8, .inl g_7)), (ad, .inl ((cs 0), 72, .inl g_8))] H := hP
  have hD : va_D A [(ha, .inr (0, [.ref as, .ref ad, .int v_6])), (as, .inl ((cs 0), 8, .inl g_7)), (ad, .inl ((cs 0), 72, .inl g_8))] := hD
  have hPo := hR.at hS
  refine lv_aload_n hx hb dX0_gather_6 rfl (lv_at hl 0 rfl) ?_
  refine lv_iconst (v := 0) hx hb dX0_gather_7 (by decide) ?_
  refine va_put (D := D) (ci := 0) (v := .int 0) (ty := .int) (C := "WrongHole$Acts") (T := TX0) (N := 3) hx hb hts (iq_RX0 _) tyX0 tyX0_ok nmX0 hown hK hP hD hS 0 rfl rfl 2 (by decide) (hT _ qq_1_167) (fun _ h9 => h9) rfl (by decide +kernel) rfl rfl (Nat.le_of_ble_eq_true rfl) dX0_gather_8 (fun H locs hP hD hS => ?_)
  have hP : va_P D vwCl [(ha, .inr (0, [.ref as, .ref ad, .int 0])), (as, .inl ((cs 0), 8, .inl g_7)), (ad, .inl ((cs 0), 72, .inl g_8))] H := hP
  have hD : va_D A [(ha, .inr (0, [.ref as, .ref ad, .int 0])), (as, .inl ((cs 0), 8, .inl g_7)), (ad, .inl ((cs 0), 72, .inl g_8))] := hD
  have hPo := hR.at hS
  refine lv_iload_n hx hb dX0_gather_11 rfl (lv_at hl 2 rfl) ?_
  have hPc := va_P.sub (ws' := []) hP [] rfl
  refine cl_P (W.runS (As := [.int a]) (rest := []) ⟨hx, hb, hml, hown, hts⟩ (c_Rows_in l D cs a) ⟨callB_of 1 hts (gd_C qq_2_230) rfl rfl rfl (hT _ qq_1_16) (hT _ qq_4_69) (by decide +kernel) (rm_R rfl rfl), (hT _ qq_2_229)⟩ (pq_S hPc hK hN) rfl rfl hl.1 rfl (lv_room (Nat.le_of_ble_eq_true rfl)) dX0_gather_12 ⟨Nat.le_of_ble_eq_true rfl, Nat.le_of_ble_eq_true rfl⟩) (fun v9 hz_11 => ?_)
  obtain ⟨x_10, rfl, r_12⟩ := hz_11
  refine lv_istore_n (lv' := [(3, .int x_10), (0, .ref ha), (1, .ref hl0), (2, .int a)]) hx hb dX0_gather_15 rfl hl (by decide) rfl (fun ls hl => ?_)
  refine lv_iconst (v := 0) hx hb dX0_gather_16 (by decide) ?_
  refine lv_istore (lv' := [(4, .int 0), (3, .int x_10), (0, .ref ha), (1, .ref hl0), (2, .int a)]) hx hb dX0_gather_17 hl (by decide) rfl (fun ls hl => ?_)
  refine w_wh (σ := (Int32) × (Int32) × (Nat → Int32) × (Nat → Int32)) (fun x9 H locs ls => match x9 with | (v_130, v_131, g_132, g_133) => Rg 0 8 v_130 ∧ Rg 0 72 v_131 ∧ va_P D vwCl [(ha, .inr (0, [.ref as, .ref ad, .int v_131])), (as, .inl ((cs 0), 8, .inl g_132)), (ad, .inl ((cs 0), 72, .inl g_133))] H ∧ va_D A [(ha, .inr (0, [.ref as, .ref ad, .int v_131])), (as, .inl ((cs 0), 8, .inl g_132)), (ad, .inl ((cs 0), 72, .inl g_133))] ∧ va_S A s.heap H locs ∧ lv_has ls 6 [(4, .int v_130), (3, .int x_10), (0, .ref ha), (1, .ref hl0), (2, .int a)]) (fun x9 => match x9 with | (v_130, v_131, g_132, g_133) => (8 - Int32.toInt v_130).toNat) 19 ?_ (0, 0, g_7, g_8) H locs ls ⟨(Rg.wk (lo2 := 0) (hi2 := 8) (Rg.c (c := 0) (k := 0) rfl) (by decide)), (Rg.wk (lo2 := 0) (hi2 := 72) (Rg.c (c := 0) (k := 0) rfl) (by decide)), hP, hD, hS, lv_sub hl [0, 1, 2, 3, 4] rfl⟩
  rintro ⟨v_130, v_131, g_132, g_133⟩ H locs ls ⟨r_10416, r_10417, hP, hD, hS, hl⟩ ih_10415
  have hPo := hR.at hS
  refine lv_iload hx hb dX0_gather_19 (lv_at hl 0 rfl) ?_
  refine lv_aload_n hx hb dX0_gather_21 rfl (lv_at hl 3 rfl) ?_
  refine va_getN (D := D) (ci := 2) (v := .int lb) (C := "WrongHole$Lift") (T := TX2) (N := 19) hx hb hts (iq_RX2 _) hown hK hPo 0 rfl rfl 0 (by decide) (NN.f hN nq_2_30) (fun _ h9 => h9) rfl dX0_gather_22 ?_
  refine lv_icmp_ge (tgt := 72) hx hb dX0_gather_25 (by decide) (fun c_10418 => ?_) (fun c_10418 => ?_)
  · refine lv_iconst (v := 0) hx hb dX0_gather_72 (by decide) ?_
    refine lv_istore (lv' := [(4, .int 0), (3, .int x_10), (0, .ref ha), (1, .ref hl0), (2, .int a)]) hx hb dX0_gather_73 hl (by decide) rfl (fun ls hl => ?_)
    refine w_wh (σ := (Int32) × (Int32) × (Nat → Int32) × (Nat → Int32)) (fun x9 H locs ls => match x9 with | (v_10627, v_10628, g_10629, g_10630) => Rg 0 8 v_10627 ∧ Rg 0 72 v_10628 ∧ va_P D vwCl [(ha, .inr (0, [.ref as, .ref ad, .int v_10628])), (as, .inl ((cs 0), 8, .inl g_10629)), (ad, .inl ((cs 0), 72, .inl g_10630))] H ∧ va_D A [(ha, .inr (0, [.ref as, .ref ad, .int v_10628])), (as, .inl ((cs 0), 8, .inl g_10629)), (ad, .inl ((cs 0), 72, .inl g_10630))] ∧ va_S A s.heap H locs ∧ lv_has ls 6 [(4, .int v_10627), (3, .int x_10), (0, .ref ha), (1, .ref hl0), (2, .int a)]) (fun x9 => match x9 with | (v_10627, v_10628, g_10629, g_10630) => (8 - Int32.toInt v_10627).toNat) 75 ?_ (0, v_131, g_132, g_133) H locs ls ⟨(Rg.wk (lo2 := 0) (hi2 := 8) (Rg.c (c := 0) (k := 0) rfl) (by decide)), r_10417, hP, hD, hS, lv_sub hl [0, 1, 2, 3, 4] rfl⟩
    rintro ⟨v_10627, v_10628, g_10629, g_10630⟩ H locs ls ⟨r_11731, r_11732, hP, hD, hS, hl⟩ ih_11730
    have hPo := hR.at hS
    refine lv_iload hx hb dX0_gather_75 (lv_at hl 0 rfl) ?_
    refine lv_aload_n hx hb dX0_gather_77 rfl (lv_at hl 3 rfl) ?_
    refine va_getN (D := D) (ci := 2) (v := .int lb) (C := "WrongHole$Lift") (T := TX2) (N := 19) hx hb hts (iq_RX2 _) hown hK hPo 0 rfl rfl 0 (by decide) (NN.f hN nq_2_30) (fun _ h9 => h9) rfl dX0_gather_78 ?_
    refine lv_icmp_ge (tgt := 148) hx hb dX0_gather_81 (by decide) (fun c_11733 => ?_) (fun c_11733 => ?_)
    · refine W.widen (k := 0) (n := 0) (Nat.le_of_ble_eq_true rfl) (Nat.le_of_ble_eq_true rfl) ?_
      have hP9 := hP.sub (ws' := [(ha, .inr (0, [.ref as, .ref ad, .int v_10628])), (as, .inl ((cs 0), 8, .inl g_10629)), (ad, .inl ((cs 0), 72, .inl g_10630))]) [0, 1, 2] rfl
      have hD9 := hD.sub (ws' := [(ha, .inr (0, [.ref as, .ref ad, .int v_10628])), (as, .inl ((cs 0), 8, .inl g_10629)), (ad, .inl ((cs 0), 72, .inl g_10630))]) [0, 1, 2] (by decide) rfl
      exact W.vret hx hb hr (fun t9 ht9 hW9 => ⟨⟨(), rfl, trivial, ⟨v_10628, g_10629, g_10630, r_11732, by rw [ht9]; exact hP9, hD9⟩⟩, hS.F ht9⟩) hS.2.2 dX0_gather_148
    · have r_11734 : Rg 0 7 v_10627 := Rg.lt_l (nle_lt c_11733) r_11731 r_lb (by decide)
      have r_11735 : Rg 1 8 lb := Rg.lt_r (nle_lt c_11733) r_11731 r_lb (by decide)
      refine lv_iload_n hx hb dX0_gather_84 rfl (lv_at hl 1 rfl) ?_
      refine lv_iload hx hb dX0_gather_85 (lv_at hl 0 rfl) ?_
      refine lv_ishr hx hb dX0_gather_87 ?_
      refine lv_topi (fun x_11813 e_11814 => ?_)
      have r_11815 : Rg 0 255 x_11813 := Rg.shrn e_11814 r_12
      refine lv_iconst (v := 1) hx hb dX0_gather_88 (by decide) ?_
      refine lv_iand hx hb dX0_gather_89 ?_
      refine lv_topi (fun x_11816 e_11817 => ?_)
      have r_11818 : Rg 0 1 x_11816 := Rg.and e_11817 (Rg.c (c := 1) (k := 1) rfl) (by decide)
      refine w_cut (σ := (Int32)) (fun (v_11827 : Int32) H locs ls => Rg 0 1 v_11827 ∧ va_P D vwCl [(ha, .inr (0, [.ref as, .ref ad, .int v_10628])), (as, .inl ((cs 0), 8, .inl g_10629)), (ad, .inl ((cs 0), 72, .inl g_10630))] H ∧ va_D A [(ha, .inr (0, [.ref as, .ref ad, .int v_10628])), (as, .inl ((cs 0), 8, .inl g_10629)), (ad, .inl ((cs 0), 72, .inl g_10630))] ∧ va_S A s.heap H locs ∧ lv_has ls 6 [(4, .int v_10627), (3, .int x_10), (0, .ref ha), (1, .ref hl0), (2, .int a)]) 108 (fun (v_11827 : Int32) => [.int v_11827]) ?_ (fun hj_11828 => ?_)
      · rintro v_11827 H locs ls ⟨r_11829, hP, hD, hS, hl⟩
        have hPo := hR.at hS
        refine lv_istore (lv' := [(5, .int v_11827), (4, .int v_10627), (3, .int x_10), (0, .ref ha), (1, .ref hl0), (2, .int a)]) hx hb dX0_gather_108 hl (by decide) rfl (fun ls hl => ?_)
        refine lv_iload hx hb dX0_gather_110 (lv_at hl 0 rfl) ?_
        refine w_cut (σ := (Int32) × (Nat → Int32) × (Nat → Int32)) (fun x9 H locs ls => match x9 with | (v_11857, g_11858, g_11859) => Rg 0 72 v_11857 ∧ va_P D vwCl [(ha, .inr (0, [.ref as, .ref ad, .int v_11857])), (as, .inl ((cs 0), 8, .inl g_11858)), (ad, .inl ((cs 0), 72, .inl g_11859))] H ∧ va_D A [(ha, .inr (0, [.ref as, .ref ad, .int v_11857])), (as, .inl ((cs 0), 8, .inl g_11858)), (ad, .inl ((cs 0), 72, .inl g_11859))] ∧ va_S A s.heap H locs ∧ lv_has ls 6 [(5, .int v_11827), (4, .int v_10627), (3, .int x_10), (0, .ref ha), (1, .ref hl0), (2, .int a)]) 142 (fun x9 => match x9 with | (v_11857, g_11858, g_11859) => []) ?_ (fun hj_11860 => ?_)
        · rintro ⟨v_11857, g_11858, g_11859⟩ H locs ls ⟨r_11861, hP, hD, hS, hl⟩
          have hPo := hR.at hS
          obtain ⟨x_11862, e_11863⟩ : ∃ z : Int32, z = v_10627 + Int32.ofInt 1 := ⟨_, rfl⟩
          have r_11864 : Rg 1 8 x_11862 := Rg.add e_11863 r_11734 (Rg.c (c := Int32.ofInt 1) (k := 1) rfl) (by decide)
          refine lv_iinc (v := x_11862) (lv' := [(4, .int x_11862), (5, .int v_11827), (3, .int x_10), (0, .ref ha), (1, .ref hl0), (2, .int a)]) hx hb dX0_gather_142 hl (k := 1) rfl (e_11863.symm) (by decide) rfl (fun ls hl => ?_)
          refine lv_goto (tgt := 75) hx hb dX0_gather_145 (by decide) ?_
          exact ih_11730 (x_11862, v_11857, g_11858, g_11859) _ _ _ ⟨(Rg.wk (lo2 := 0) (hi2 := 8) r_11864 (by decide)), r_11861, hP, hD, hS, lv_sub hl [0, 2, 3, 4, 5] rfl⟩ (ms_up e_11863 r_11734 (Rg.c (c := Int32.ofInt 1) (k := 1) rfl) (by decide))
        · refine lv_if_eq (tgt := 142) hx hb dX0_gather_112 (by decide) (fun c_11830 => ?_) (fun c_11830 => ?_)
          · have r_11831 : Rg 0 0 v_11827 := Rg.eq_l c_11830 r_11829 (Rg.c (c := 0) (k := 0) rfl) (by decide)
            exact hj_11860 (v_10628, g_10629, g_10630) _ _ _ ⟨r_11732, hP, hD, hS, lv_sub hl [0, 1, 2, 3, 4, 5] rfl⟩
          · have r_11832 : Rg 1 1 v_11827 := Rg.ne c_11830 r_11829 (Rg.c (c := 0) (k := 0) rfl) (by decide)
            refine lv_aload_n hx hb dX0_gather_115 rfl (lv_at hl 4 rfl) ?_
            refine lv_iload_n hx hb dX0_gather_116 rfl (lv_at hl 2 rfl) ?_
            refine lv_iconst (v := 1) hx hb dX0_gather_117 (by decide) ?_
            refine lv_iload hx hb dX0_gather_118 (lv_at hl 1 rfl) ?_
            refine lv_ishl hx hb dX0_gather_120 ?_
            refine lv_topi (fun x_11865 e_11866 => ?_)
            have r_11867 : Rg 0 128 x_11865 := Rg.shl (ha := 1) (k := 7) e_11866 (Rg.wk (Rg.c (c := 1) (k := 1) rfl) (by decide)) (Rg.wk r_11734 (by decide)) (by decide) (by decide)
            refine lv_ior hx hb dX0_gather_121 ?_
            refine lv_topi (fun x_11868 e_11869 => ?_)
            have r_11870 : Rg 0 255 x_11868 := Rg.or (k := 8) e_11869 r_12 r_11867 (by decide) (by decide)
            have hPc := va_P.sub (ws' := [(hl0, .inr (2, [.int lb, .int lh, .int lg, .int lw, .int lv, .int lbs, .int lti, .int lts, .int le, .int lk, .int la, .ref l0, .ref l1, .ref l2, .ref l3, .ref l4, .ref l5, .ref l6, .ref l7]))]) hPo [0] rfl
            refine cl_P (W.runV (As := [.int x_11868]) (rest := []) ⟨hx, hb, hml, hown, hts⟩ (c_Lift_lawful l D cs hl0 lb lh lg lw lv lbs lti lts le lk la l0 l1 l2 l3 l4 l5 l6 l7 x_11868 (Rg.wk (lo2 := 0) (hi2 := 8) r_11735 (by decide)) r_lh r_le) ⟨callB_of 1 hts (gd_C qq_3_215) rfl rfl rfl (hT _ qq_1_11) (hT _ qq_4_71) (by decide +kernel) (rm_R rfl rfl), (hT _ qq_3_213), (hT _ qq_3_214)⟩ (pq_V hPc hK hN (ci := 2) (q0 := 0) rfl rfl) rfl rfl hl.1 rfl (lv_room (Nat.le_of_ble_eq_true rfl)) dX0_gather_122 ⟨Nat.le_of_ble_eq_true rfl, Nat.le_of_ble_eq_true rfl⟩) (fun v9 hz_11872 => ?_)
            obtain ⟨x_11871, rfl, r_11873⟩ := hz_11872
            refine lv_if_eq (tgt := 142) hx hb dX0_gather_125 (by decide) (fun c_11874 => ?_) (fun c_11874 => ?_)
            · have r_11875 : Rg 0 0 x_11871 := Rg.eq_l c_11874 r_11873 (Rg.c (c := 0) (k := 0) rfl) (by decide)
              exact hj_11860 (v_10628, g_10629, g_10630) _ _ _ ⟨r_11732, hP, hD, hS, lv_sub hl [0, 1, 2, 3, 4, 5] rfl⟩
            · have r_11876 : Rg 1 1 x_11871 := Rg.ne c_11874 r_11873 (Rg.c (c := 0) (k := 0) rfl) (by decide)
              refine lv_aload_n hx hb dX0_gather_128 rfl (lv_at hl 3 rfl) ?_
              refine lv_iconst (v := 1) hx hb dX0_gather_129 (by decide) ?_
              refine lv_iload hx hb dX0_gather_130 (lv_at hl 1 rfl) ?_
              refine lv_aload_n hx hb dX0_gather_132 rfl (lv_at hl 3 rfl) ?_
              refine va_get (D := D) (ci := 0) (v := .ref as) (C := "WrongHole$Acts") (T := TX0) (N := 3) hx hb hts (iq_RX0 _) hown hK hP 0 rfl rfl 0 (by decide) (hT _ qq_1_162) (fun _ h9 => h9) rfl dX0_gather_133 ?_
              refine lv_iload hx hb dX0_gather_136 (lv_at hl 1 rfl) ?_
              have hi_11877 : vp_in v_10627 8 := Rg.in r_11734 (by decide)
              refine va_iald hx hb hK hP 1 0 rfl rfl hi_11877 dX0_gather_138 ?_
              refine lv_topi (fun x_11878 e_11879 => ?_)
              have hPc := hP.sub (ws' := [(ha, .inr (0, [.ref as, .ref ad, .int v_10628])), (as, .inl ((cs 0), 8, .inl g_10629)), (ad, .inl ((cs 0), 72, .inl g_10630))]) [0, 1, 2] rfl
              have hDc := hD.sub (ws' := [(ha, .inr (0, [.ref as, .ref ad, .int v_10628])), (as, .inl ((cs 0), 8, .inl g_10629)), (ad, .inl ((cs 0), 72, .inl g_10630))]) [0, 1, 2] (by decide) rfl
              have hFc := va_free (wc := [(ha, .inr (0, [.ref as, .ref ad, .int v_10628])), (as, .inl ((cs 0), 8, .inl g_10629)), (ad, .inl ((cs 0), 72, .inl g_10630))]) hD hS hA [0, 1, 2] rfl
              refine va_callv (va_runV (As := [.int 1, .int v_10627, .int x_11878]) (rest := []) ⟨hx, hb, hml, hown, hts⟩ (c_Acts_add l D cs X H.size ha as ad v_10628 g_10629 g_10630 1 v_10627 x_11878 r_11732) ⟨callB_of 3 hts (gd_C qq_4_75) rfl rfl rfl (hT _ qq_1_7) (hT _ qq_4_72) (by decide +kernel) (rm_R rfl rfl), (hT _ qq_4_74), (hT _ qs_0_13)⟩ (pr_V hPc hK hDc hN (hR.sub (wo' := []) [] rfl) hS hFc hX hXs (ci := 0) (q0 := 0) rfl rfl) rfl rfl hl.1 rfl (lv_room (Nat.le_of_ble_eq_true rfl)) dX0_gather_139 ⟨Nat.le_of_ble_eq_true rfl, Nat.le_of_ble_eq_true rfl⟩) hS (fun q _ h => hFc q h) hFc (fun u_11880 t_11883 H1 locs ht9 hvm hw_11881 hB_11882 hz1 hk1 hS => ?_)
              obtain ⟨v_11885, g_11886, g_11887, r_11888, hP1, hD1⟩ := hB_11882
              rw [ht9] at hP1
              obtain ⟨hP, hD⟩ := va_join (wr := []) (w1 := [(ha, .inr (0, [.ref as, .ref ad, .int v_11885])), (as, .inl ((cs 0), 8, .inl g_11886)), (ad, .inl ((cs 0), 72, .inl g_11887))]) hP hD [0, 1, 2] [] rfl rfl (by decide) (by decide) hk1 hFc hP1 hD1
              generalize H1 = H at hP hS ⊢
              have hP : va_P D vwCl [(ha, .inr (0, [.ref as, .ref ad, .int v_11885])), (as, .inl ((cs 0), 8, .inl g_11886)), (ad, .inl ((cs 0), 72, .inl g_11887))] H := hP
              have hD : va_D A [(ha, .inr (0, [.ref as, .ref ad, .int v_11885])), (as, .inl ((cs 0), 8, .inl g_11886)), (ad, .inl ((cs 0), 72, .inl g_11887))] := hD
              have hPo := hR.at hS
              exact hj_11860 (v_11885, g_11886, g_11887) _ _ _ ⟨r_11888, hP, hD, hS, lv_sub hl [0, 1, 2, 3, 4, 5] rfl⟩
      · refine lv_if_ne (tgt := 107) hx hb dX0_gather_90 (by decide) (fun c_11819 => ?_) (fun c_11819 => ?_)
        · have r_11820 : Rg 1 1 x_11816 := Rg.ne c_11819 r_11818 (Rg.c (c := 0) (k := 0) rfl) (by decide)
          refine lv_iconst (v := 0) hx hb dX0_gather_107 (by decide) ?_
          exact hj_11828 0 _ _ _ ⟨(Rg.wk (lo2 := 0) (hi2 := 1) (Rg.c (c := 0) (k := 0) rfl) (by decide)), hP, hD, hS, lv_sub hl [0, 1, 2, 3, 4] rfl⟩
        · have r_11821 : Rg 0 0 x_11816 := Rg.eq_l c_11819 r_11818 (Rg.c (c := 0) (k := 0) rfl) (by decide)
          refine lv_aload_n hx hb dX0_gather_93 rfl (lv_at hl 2 rfl) ?_
          refine va_get (D := D) (ci := 0) (v := .ref as) (C := "WrongHole$Acts") (T := TX0) (N := 3) hx hb hts (iq_RX0 _) hown hK hP 0 rfl rfl 0 (by decide) (hT _ qq_1_162) (fun _ h9 => h9) rfl dX0_gather_94 ?_
          refine lv_iload hx hb dX0_gather_97 (lv_at hl 0 rfl) ?_
          have hi_11889 : vp_in v_10627 8 := Rg.in r_11734 (by decide)
          refine va_iald hx hb hK hP 1 0 rfl rfl hi_11889 dX0_gather_99 ?_
          refine lv_topi (fun x_11890 e_11891 => ?_)
          refine lv_if_eq (tgt := 107) hx hb dX0_gather_100 (by decide) (fun c_11892 => ?_) (fun c_11892 => ?_)
          · have r_11893 : Rg 0 0 x_11890 := Rg.eq_l c_11892 (Rg.top x_11890) (Rg.c (c := 0) (k := 0) rfl) (by decide)
            refine lv_iconst (v := 0) hx hb dX0_gather_107 (by decide) ?_
            exact hj_11828 0 _ _ _ ⟨(Rg.wk (lo2 := 0) (hi2 := 1) (Rg.c (c := 0) (k := 0) rfl) (by decide)), hP, hD, hS, lv_sub hl [0, 1, 2, 3, 4] rfl⟩
          · refine lv_iconst (v := 1) hx hb dX0_gather_103 (by decide) ?_
            refine lv_goto (tgt := 108) hx hb dX0_gather_104 (by decide) ?_
            exact hj_11828 1 _ _ _ ⟨(Rg.wk (lo2 := 0) (hi2 := 1) (Rg.c (c := 1) (k := 1) rfl) (by decide)), hP, hD, hS, lv_sub hl [0, 1, 2, 3, 4] rfl⟩
  · have r_10419 : Rg 0 7 v_130 := Rg.lt_l (nle_lt c_10418) r_10416 r_lb (by decide)
    have r_10420 : Rg 1 8 lb := Rg.lt_r (nle_lt c_10418) r_10416 r_lb (by decide)
    refine lv_iload_n hx hb dX0_gather_28 rfl (lv_at hl 1 rfl) ?_
    refine lv_iload hx hb dX0_gather_29 (lv_at hl 0 rfl) ?_
    refine lv_ishr hx hb dX0_gather_31 ?_
    refine lv_topi (fun x_11894 e_11895 => ?_)
    have r_11896 : Rg 0 255 x_11894 := Rg.shrn e_11895 r_12
    refine lv_iconst (v := 1) hx hb dX0_gather_32 (by decide) ?_
    refine lv_iand hx hb dX0_gather_33 ?_
    refine lv_topi (fun x_11897 e_11898 => ?_)
    have r_11899 : Rg 0 1 x_11897 := Rg.and e_11898 (Rg.c (c := 1) (k := 1) rfl) (by decide)
    refine w_cut (σ := (Int32) × (Nat → Int32) × (Nat → Int32)) (fun x9 H locs ls => match x9 with | (v_11929, g_11930, g_11931) => Rg 0 72 v_11929 ∧ va_P D vwCl [(ha, .inr (0, [.ref as, .ref ad, .int v_11929])), (as, .inl ((cs 0), 8, .inl g_11930)), (ad, .inl ((cs 0), 72, .inl g_11931))] H ∧ va_D A [(ha, .inr (0, [.ref as, .ref ad, .int v_11929])), (as, .inl ((cs 0), 8, .inl g_11930)), (ad, .inl ((cs 0), 72, .inl g_11931))] ∧ va_S A s.heap H locs ∧ lv_has ls 6 [(4, .int v_130), (3, .int x_10), (0, .ref ha), (1, .ref hl0), (2, .int a)]) 66 (fun x9 => match x9 with | (v_11929, g_11930, g_11931) => []) ?_ (fun hj_11932 => ?_)
    · rintro ⟨v_11929, g_11930, g_11931⟩ H locs ls ⟨r_11933, hP, hD, hS, hl⟩
      have hPo := hR.at hS
      obtain ⟨x_11934, e_11935⟩ : ∃ z : Int32, z = v_130 + Int32.ofInt 1 := ⟨_, rfl⟩
      have r_11936 : Rg 1 8 x_11934 := Rg.add e_11935 r_10419 (Rg.c (c := Int32.ofInt 1) (k := 1) rfl) (by decide)
      refine lv_iinc (v := x_11934) (lv' := [(4, .int x_11934), (3, .int x_10), (0, .ref ha), (1, .ref hl0), (2, .int a)]) hx hb dX0_gather_66 hl (k := 0) rfl (e_11935.symm) (by decide) rfl (fun ls hl => ?_)
      refine lv_goto (tgt := 19) hx hb dX0_gather_69 (by decide) ?_
      exact ih_10415 (x_11934, v_11929, g_11930, g_11931) _ _ _ ⟨(Rg.wk (lo2 := 0) (hi2 := 8) r_11936 (by decide)), r_11933, hP, hD, hS, lv_sub hl [0, 1, 2, 3, 4] rfl⟩ (ms_up e_11935 r_10419 (Rg.c (c := Int32.ofInt 1) (k := 1) rfl) (by decide))
    · refine lv_if_eq (tgt := 66) hx hb dX0_gather_34 (by decide) (fun c_11900 => ?_) (fun c_11900 => ?_)
      · have r_11901 : Rg 0 0 x_11897 := Rg.eq_l c_11900 r_11899 (Rg.c (c := 0) (k := 0) rfl) (by decide)
        exact hj_11932 (v_131, g_132, g_133) _ _ _ ⟨r_10417, hP, hD, hS, lv_sub hl [0, 1, 2, 3, 4] rfl⟩
      · have r_11902 : Rg 1 1 x_11897 := Rg.ne c_11900 r_11899 (Rg.c (c := 0) (k := 0) rfl) (by decide)
        refine lv_aload_n hx hb dX0_gather_37 rfl (lv_at hl 3 rfl) ?_
        refine lv_iload_n hx hb dX0_gather_38 rfl (lv_at hl 1 rfl) ?_
        refine lv_iconst (v := 1) hx hb dX0_gather_39 (by decide) ?_
        refine lv_iload hx hb dX0_gather_40 (lv_at hl 0 rfl) ?_
        refine lv_ishl hx hb dX0_gather_42 ?_
        refine lv_topi (fun x_11937 e_11938 => ?_)
        have r_11939 : Rg 0 128 x_11937 := Rg.shl (ha := 1) (k := 7) e_11938 (Rg.wk (Rg.c (c := 1) (k := 1) rfl) (by decide)) (Rg.wk r_10419 (by decide)) (by decide) (by decide)
        refine lv_iconst (v := (-1)) hx hb dX0_gather_43 (by decide) ?_
        refine lv_ixor hx hb dX0_gather_44 ?_
        refine lv_topi (fun x_11940 e_11941 => ?_)
        refine lv_iand hx hb dX0_gather_45 ?_
        refine lv_topi (fun x_11942 e_11943 => ?_)
        have r_11944 : Rg 0 255 x_11942 := Rg.andl e_11943 r_12 (by decide)
        have hPc := va_P.sub (ws' := [(hl0, .inr (2, [.int lb, .int lh, .int lg, .int lw, .int lv, .int lbs, .int lti, .int lts, .int le, .int lk, .int la, .ref l0, .ref l1, .ref l2, .ref l3, .ref l4, .ref l5, .ref l6, .ref l7]))]) hPo [0] rfl
        refine cl_P (W.runV (As := [.int x_11942]) (rest := []) ⟨hx, hb, hml, hown, hts⟩ (c_Lift_lawful l D cs hl0 lb lh lg lw lv lbs lti lts le lk la l0 l1 l2 l3 l4 l5 l6 l7 x_11942 (Rg.wk (lo2 := 0) (hi2 := 8) r_10420 (by decide)) r_lh r_le) ⟨callB_of 1 hts (gd_C qq_3_215) rfl rfl rfl (hT _ qq_1_11) (hT _ qq_4_71) (by decide +kernel) (rm_R rfl rfl), (hT _ qq_3_213), (hT _ qq_3_214)⟩ (pq_V hPc hK hN (ci := 2) (q0 := 0) rfl rfl) rfl rfl hl.1 rfl (lv_room (Nat.le_of_ble_eq_true rfl)) dX0_gather_46 ⟨Nat.le_of_ble_eq_true rfl, Nat.le_of_ble_eq_true rfl⟩) (fun v9 hz_11946 => ?_)
        obtain ⟨x_11945, rfl, r_11947⟩ := hz_11946
        refine lv_if_eq (tgt := 66) hx hb dX0_gather_49 (by decide) (fun c_11948 => ?_) (fun c_11948 => ?_)
        · have r_11949 : Rg 0 0 x_11945 := Rg.eq_l c_11948 r_11947 (Rg.c (c := 0) (k := 0) rfl) (by decide)
          exact hj_11932 (v_131, g_132, g_133) _ _ _ ⟨r_10417, hP, hD, hS, lv_sub hl [0, 1, 2, 3, 4] rfl⟩
        · have r_11950 : Rg 1 1 x_11945 := Rg.ne c_11948 r_11947 (Rg.c (c := 0) (k := 0) rfl) (by decide)
          refine lv_aload_n hx hb dX0_gather_52 rfl (lv_at hl 2 rfl) ?_
          refine lv_iconst (v := 0) hx hb dX0_gather_53 (by decide) ?_
          refine lv_iload hx hb dX0_gather_54 (lv_at hl 0 rfl) ?_
          refine lv_aload_n hx hb dX0_gather_56 rfl (lv_at hl 2 rfl) ?_
          refine va_get (D := D) (ci := 0) (v := .ref as) (C := "WrongHole$Acts") (T := TX0) (N := 3) hx hb hts (iq_RX0 _) hown hK hP 0 rfl rfl 0 (by decide) (hT _ qq_1_162) (fun _ h9 => h9) rfl dX0_gather_57 ?_
          refine lv_iload hx hb dX0_gather_60 (lv_at hl 0 rfl) ?_
          have hi_11951 : vp_in v_130 8 := Rg.in r_10419 (by decide)
          refine va_iald hx hb hK hP 1 0 rfl rfl hi_11951 dX0_gather_62 ?_
          refine lv_topi (fun x_11952 e_11953 => ?_)
          have hPc := hP.sub (ws' := [(ha, .inr (0, [.ref as, .ref ad, .int v_131])), (as, .inl ((cs 0), 8, .inl g_132)), (ad, .inl ((cs 0), 72, .inl g_133))]) [0, 1, 2] rfl
          have hDc := hD.sub (ws' := [(ha, .inr (0, [.ref as, .ref ad, .int v_131])), (as, .inl ((cs 0), 8, .inl g_132)), (ad, .inl ((cs 0), 72, .inl g_133))]) [0, 1, 2] (by decide) rfl
          have hFc := va_free (wc := [(ha, .inr (0, [.ref as, .ref ad, .int v_131])), (as, .inl ((cs 0), 8, .inl g_132)), (ad, .inl ((cs 0), 72, .inl g_133))]) hD hS hA [0, 1, 2] rfl
          refine va_callv (va_runV (As := [.int 0, .int v_130, .int x_11952]) (rest := []) ⟨hx, hb, hml, hown, hts⟩ (c_Acts_add l D cs X H.size ha as ad v_131 g_132 g_133 0 v_130 x_11952 r_10417) ⟨callB_of 3 hts (gd_C qq_4_75) rfl rfl rfl (hT _ qq_1_7) (hT _ qq_4_72) (by decide +kernel) (rm_R rfl rfl), (hT _ qq_4_74), (hT _ qs_0_13)⟩ (pr_V hPc hK hDc hN (hR.sub (wo' := []) [] rfl) hS hFc hX hXs (ci := 0) (q0 := 0) rfl rfl) rfl rfl hl.1 rfl (lv_room (Nat.le_of_ble_eq_true rfl)) dX0_gather_63 ⟨Nat.le_of_ble_eq_true rfl, Nat.le_of_ble_eq_true rfl⟩) hS (fun q _ h => hFc q h) hFc (fun u_11954 t_11957 H1 locs ht9 hvm hw_11955 hB_11956 hz1 hk1 hS => ?_)
          obtain ⟨v_11959, g_11960, g_11961, r_11962, hP1, hD1⟩ := hB_11956
          rw [ht9] at hP1
          obtain ⟨hP, hD⟩ := va_join (wr := []) (w1 := [(ha, .inr (0, [.ref as, .ref ad, .int v_11959])), (as, .inl ((cs 0), 8, .inl g_11960)), (ad, .inl ((cs 0), 72, .inl g_11961))]) hP hD [0, 1, 2] [] rfl rfl (by decide) (by decide) hk1 hFc hP1 hD1
          generalize H1 = H at hP hS ⊢
          have hP : va_P D vwCl [(ha, .inr (0, [.ref as, .ref ad, .int v_11959])), (as, .inl ((cs 0), 8, .inl g_11960)), (ad, .inl ((cs 0), 72, .inl g_11961))] H := hP
          have hD : va_D A [(ha, .inr (0, [.ref as, .ref ad, .int v_11959])), (as, .inl ((cs 0), 8, .inl g_11960)), (ad, .inl ((cs 0), 72, .inl g_11961))] := hD
          have hPo := hR.at hS
          exact hj_11932 (v_11959, g_11960, g_11961) _ _ _ ⟨r_11962, hP, hD, hS, lv_sub hl [0, 1, 2, 3, 4] rfl⟩
