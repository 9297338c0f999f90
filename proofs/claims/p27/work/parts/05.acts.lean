theorem dX0_add_0 : decode cX0_add 0 = .ok (.iconst 0, 1) := by decide +kernel
theorem dX0_add_1 : decode cX0_add 1 = .ok (.istore 4, 2) := by decide +kernel
theorem dX0_add_3 : decode cX0_add 3 = .ok (.iload 4, 2) := by decide +kernel
theorem dX0_add_5 : decode cX0_add 5 = .ok (.bipush 8, 2) := by decide +kernel
theorem dX0_add_7 : decode cX0_add 7 = .ok (.if_icmp .ge 53, 3) := by decide +kernel
theorem dX0_add_60 : decode cX0_add 60 = .ok (.return_, 1) := by decide +kernel
theorem dX0_add_10 : decode cX0_add 10 = .ok (.aload_n 0, 1) := by decide +kernel
theorem dX0_add_11 : decode cX0_add 11 = .ok (.getfield 38, 3) := by decide +kernel
theorem qq_1_167 : Cond.fieldLink "WrongHole$Acts" 38 "WrongHole$Acts" "size" "I" ∈ TB := mk_tb (ti_1 (List.mem_of_getElem? (i := 167) rfl)) rfl
theorem iq_RX0 (cd : Cond) : ∀ w ∈ u_ws RX0 TX0 3, w ∈ cd :: TB := by
  intro w hw
  obtain ⟨k, hk, rfl⟩ := List.mem_map.mp hw
  have hk := List.mem_range.mp hk
  refine List.mem_cons_of_mem _ ?_
  match k, hk with
  | 0, _ => exact mk_tb (ti_1 (List.mem_of_getElem? (i := 170) rfl)) rfl
  | 1, _ => exact mk_tb (ti_1 (List.mem_of_getElem? (i := 172) rfl)) rfl
  | 2, _ => exact mk_tb (ti_1 (List.mem_of_getElem? (i := 174) rfl)) rfl
  | n + 3, h => exact absurd h (by omega)
theorem dX0_add_14 : decode cX0_add 14 = .ok (.bipush 72, 2) := by decide +kernel
theorem dX0_add_16 : decode cX0_add 16 = .ok (.if_icmp .ge 44, 3) := by decide +kernel
theorem dX0_add_19 : decode cX0_add 19 = .ok (.iload_n 3, 1) := by decide +kernel
theorem dX0_add_20 : decode cX0_add 20 = .ok (.iload 4, 2) := by decide +kernel
theorem dX0_add_22 : decode cX0_add 22 = .ok (.ishr, 1) := by decide +kernel
theorem dX0_add_23 : decode cX0_add 23 = .ok (.iconst 1, 1) := by decide +kernel
theorem dX0_add_24 : decode cX0_add 24 = .ok (.iand, 1) := by decide +kernel
theorem dX0_add_25 : decode cX0_add 25 = .ok (.ifCond .eq 29, 3) := by decide +kernel
theorem dX0_add_54 : decode cX0_add 54 = .ok (.iinc 4 1, 3) := by decide +kernel
theorem dX0_add_57 : decode cX0_add 57 = .ok (.goto (-54), 3) := by decide +kernel
theorem dX0_add_28 : decode cX0_add 28 = .ok (.aload_n 0, 1) := by decide +kernel
theorem dX0_add_29 : decode cX0_add 29 = .ok (.getfield 13, 3) := by decide +kernel
theorem qq_1_164 : Cond.fieldLink "WrongHole$Acts" 13 "WrongHole$Acts" "codes" "[I" ∈ TB := mk_tb (ti_1 (List.mem_of_getElem? (i := 164) rfl)) rfl
theorem dX0_add_32 : decode cX0_add 32 = .ok (.aload_n 0, 1) := by decide +kernel
theorem dX0_add_33 : decode cX0_add 33 = .ok (.getfield 38, 3) := by decide +kernel
theorem dX0_add_36 : decode cX0_add 36 = .ok (.iload_n 1, 1) := by decide +kernel
theorem dX0_add_37 : decode cX0_add 37 = .ok (.iload_n 2, 1) := by decide +kernel
theorem dX0_add_38 : decode cX0_add 38 = .ok (.iload 4, 2) := by decide +kernel
theorem dX0_add_40 : decode cX0_add 40 = .ok (.invokestatic 49, 3) := by decide +kernel
theorem qq_3_33 : Cond.code yX6_actOf cX6_actOf 3 (some .int) ∈ TB := mk_tb (ti_3 (List.mem_of_getElem? (i := 33) rfl)) rfl
theorem qq_4_76 : Cond.methodLink "WrongHole$Acts" 49 yX6_actOf ∈ TB := mk_tb (ti_4 (List.mem_of_getElem? (i := 76) rfl)) rfl
theorem qq_3_32 : Cond.static yX6_actOf ∈ TB := mk_tb (ti_3 (List.mem_of_getElem? (i := 32) rfl)) rfl
theorem dX0_add_43 : decode cX0_add 43 = .ok (.iastore, 1) := by decide +kernel
theorem dX0_add_44 : decode cX0_add 44 = .ok (.aload_n 0, 1) := by decide +kernel
theorem dX0_add_45 : decode cX0_add 45 = .ok (.dup, 1) := by decide +kernel
theorem dX0_add_46 : decode cX0_add 46 = .ok (.getfield 38, 3) := by decide +kernel
theorem dX0_add_49 : decode cX0_add 49 = .ok (.iconst 1, 1) := by decide +kernel
theorem dX0_add_50 : decode cX0_add 50 = .ok (.iadd, 1) := by decide +kernel
theorem dX0_add_51 : decode cX0_add 51 = .ok (.putfield 38, 3) := by decide +kernel
set_option maxHeartbeats 4000000 in
set_option maxRecDepth 100000 in
theorem c_Acts_add (l : Launch) (D : va_G) (cs : Nat → ClassId) (X : XX) (sz : Nat) (ha : Nat) (as : Nat) (ad : Nat) (ac : Int32) (gs : Nat → Int32) (gc : Nat → Int32) (x : Int32) (b : Int32) (h : Int32) (r_ac : Rg 0 72 ac) : Met l yX0_add (Cond.code yX0_add cX0_add 5 none :: TB) (RM 1 0 0) (va_Pc [.ref ha, .int x, .int b, .int h] (PRE D cs X [(ha, .inr (0, [.ref as, .ref ad, .int ac])), (as, .inl ((cs 0), 8, .inl gs)), (ad, .inl ((cs 0), 72, .inl gc))] [] sz)) (va_Qv (S := Unit) (fun _ => True) (fun _ t => ∃ (ac2 : Int32), ∃ (gs2 : Nat → Int32), ∃ (gc2 : Nat → Int32), Rg 0 72 ac2 ∧ va_P D vwCl [(ha, .inr (0, [.ref as, .ref ad, .int ac2])), (as, .inl ((cs 0), 8, .inl gs2)), (ad, .inl ((cs 0), 72, .inl gc2))] t.heap ∧ va_D (va_A [(ha, .inr (0, [.ref as, .ref ad, .int ac])), (as, .inl ((cs 0), 8, .inl gs)), (ad, .inl ((cs 0), 72, .inl gc))] sz) [(ha, .inr (0, [.ref as, .ref ad, .int ac2])), (as, .inl ((cs 0), 8, .inl gs2)), (ad, .inl ((cs 0), 72, .inl gc2))]) (va_A [(ha, .inr (0, [.ref as, .ref ad, .int ac])), (as, .inl ((cs 0), 8, .inl gs)), (ad, .inl ((cs 0), 72, .inl gc))] sz)) 0 0 (va_A [(ha, .inr (0, [.ref as, .ref ad, .int ac])), (as, .inl ((cs 0), 8, .inl gs)), (ad, .inl ((cs 0), 72, .inl gc))] sz) := by
  refine MET (y := yX0_add) (cc := cX0_add) (maxL := 5) (ret := none) (d := 1) (mc := 0) (ms := 0) (D := D) (cs := cs) (X := X) (ws := [(ha, .inr (0, [.ref as, .ref ad, .int ac])), (as, .inl ((cs 0), 8, .inl gs)), (ad, .inl ((cs 0), 72, .inl gc))]) (wo := []) (sz := sz) (av := [.ref ha, .int x, .int b, .int h]) (Qc := fun A => va_Qv (S := Unit) (fun _ => True) (fun _ t => ∃ (ac2 : Int32), ∃ (gs2 : Nat → Int32), ∃ (gc2 : Nat → Int32), Rg 0 72 ac2 ∧ va_P D vwCl [(ha, .inr (0, [.ref as, .ref ad, .int ac2])), (as, .inl ((cs 0), 8, .inl gs2)), (ad, .inl ((cs 0), 72, .inl gc2))] t.heap ∧ va_D A [(ha, .inr (0, [.ref as, .ref ad, .int ac2])), (as, .inl ((cs 0), 8, .inl gs2)), (ad, .inl ((cs 0), 72, .inl gc2))]) A) (by decide) (Nat.le_of_ble_eq_true rfl) ?_
  intro p e s m below meth c ls A H hHe hx hb hr hml hown hts hlocks hnm hP hK hD hA hS hN hR hX hXs hl
  have hD : va_D A [(ha, .inr (0, [.ref as, .ref ad, .int ac])), (as, .inl ((cs 0), 8, .inl gs)), (ad, .inl ((cs 0), 72, .inl gc))] := hD
  obtain ⟨locs, hlc⟩ : ∃ z : List Loc, z = [] := ⟨_, rfl⟩
  rw [← hlc] at hS ⊢
  have hown : s.vm.findClass "WrongHole$Acts" = some m.cls := hown
  have hT : ∀ w ∈ TB, w.before ([.ref ha, .int x, .int b, .int h] : List Value).toArray s = true := fun w h => hts w (List.mem_cons_of_mem _ h)
  have hl : lv_has ls 5 [(0, .ref ha), (1, .int x), (2, .int b), (3, .int h)] := hl
  have hP : va_P D vwCl [(ha, .inr (0, [.ref as, .ref ad, .int ac])), (as, .inl ((cs 0), 8, .inl gs)), (ad, .inl ((cs 0), 72, .inl gc))] H := hP
  refine lv_iconst (v := 0) hx hb dX0_add_0 (by decide) ?_
  refine lv_istore (lv' := [(4, .int 0), (0, .ref ha), (1, .int x), (2, .int b), (3, .int h)]) hx hb dX0_add_1 hl (by decide) rfl (fun ls hl => ?_)
  refine w_wh (σ := (Int32) × (Int32) × (Nat → Int32)) (fun x9 H locs ls => match x9 with | (v_53, v_54, g_55) => Rg 0 8 v_53 ∧ Rg 0 72 v_54 ∧ va_P D vwCl [(ha, .inr (0, [.ref as, .ref ad, .int v_54])), (as, .inl ((cs 0), 8, .inl gs)), (ad, .inl ((cs 0), 72, .inl g_55))] H ∧ va_D A [(ha, .inr (0, [.ref as, .ref ad, .int v_54])), (as, .inl ((cs 0), 8, .inl gs)), (ad, .inl ((cs 0), 72, .inl g_55))] ∧ va_S A s.heap H locs ∧ lv_has ls 5 [(4, .int v_53), (0, .ref ha), (1, .int x), (2, .int b), (3, .int h)]) (fun x9 => match x9 with | (v_53, v_54, g_55) => (8 - Int32.toInt v_53).toNat) 3 ?_ (0, ac, gc) H locs ls ⟨(Rg.wk (lo2 := 0) (hi2 := 8) (Rg.c (c := 0) (k := 0) rfl) (by decide)), r_ac, hP, hD, hS, lv_sub hl [0, 1, 2, 3, 4] rfl⟩
  rintro ⟨v_53, v_54, g_55⟩ H locs ls ⟨r_591, r_592, hP, hD, hS, hl⟩ ih_590
  refine lv_iload hx hb dX0_add_3 (lv_at hl 0 rfl) ?_
  refine lv_bipush (v := 8) hx hb dX0_add_5 (by decide) ?_
  refine lv_icmp_ge (tgt := 60) hx hb dX0_add_7 (by decide) (fun c_593 => ?_) (fun c_593 => ?_)
  · have r_594 : Rg 8 8 v_53 := Rg.le_r c_593 (Rg.c (c := 8) (k := 8) rfl) r_591 (by decide)
    refine W.widen (k := 0) (n := 0) (Nat.le_of_ble_eq_true rfl) (Nat.le_of_ble_eq_true rfl) ?_
    have hP9 := hP.sub (ws' := [(ha, .inr (0, [.ref as, .ref ad, .int v_54])), (as, .inl ((cs 0), 8, .inl gs)), (ad, .inl ((cs 0), 72, .inl g_55))]) [0, 1, 2] rfl
    have hD9 := hD.sub (ws' := [(ha, .inr (0, [.ref as, .ref ad, .int v_54])), (as, .inl ((cs 0), 8, .inl gs)), (ad, .inl ((cs 0), 72, .inl g_55))]) [0, 1, 2] (by decide) rfl
    exact W.vret hx hb hr (fun t9 ht9 hW9 => ⟨⟨(), rfl, trivial, ⟨v_54, gs, g_55, r_592, by rw [ht9]; exact hP9, hD9⟩⟩, hS.F ht9⟩) hS.2.2 dX0_add_60
  · have r_595 : Rg 0 7 v_53 := Rg.lt_l (nle_lt c_593) r_591 (Rg.c (c := 8) (k := 8) rfl) (by decide)
    refine lv_aload_n hx hb dX0_add_10 rfl (lv_at hl 1 rfl) ?_
    refine va_get (D := D) (ci := 0) (v := .int v_54) (C := "WrongHole$Acts") (T := TX0) (N := 3) hx hb hts (iq_RX0 _) hown hK hP 0 rfl rfl 2 (by decide) (hT _ qq_1_167) (fun _ h9 => h9) rfl dX0_add_11 ?_
    refine lv_bipush (v := 72) hx hb dX0_add_14 (by decide) ?_
    refine lv_icmp_ge (tgt := 60) hx hb dX0_add_16 (by decide) (fun c_626 => ?_) (fun c_626 => ?_)
    · have r_627 : Rg 72 72 v_54 := Rg.le_r c_626 (Rg.c (c := 72) (k := 72) rfl) r_592 (by decide)
      refine W.widen (k := 0) (n := 0) (Nat.le_of_ble_eq_true rfl) (Nat.le_of_ble_eq_true rfl) ?_
      have hP9 := hP.sub (ws' := [(ha, .inr (0, [.ref as, .ref ad, .int v_54])), (as, .inl ((cs 0), 8, .inl gs)), (ad, .inl ((cs 0), 72, .inl g_55))]) [0, 1, 2] rfl
      have hD9 := hD.sub (ws' := [(ha, .inr (0, [.ref as, .ref ad, .int v_54])), (as, .inl ((cs 0), 8, .inl gs)), (ad, .inl ((cs 0), 72, .inl g_55))]) [0, 1, 2] (by decide) rfl
      exact W.vret hx hb hr (fun t9 ht9 hW9 => ⟨⟨(), rfl, trivial, ⟨v_54, gs, g_55, (Rg.wk (lo2 := 0) (hi2 := 72) r_627 (by decide)), by rw [ht9]; exact hP9, hD9⟩⟩, hS.F ht9⟩) hS.2.2 dX0_add_60
    · have r_628 : Rg 0 71 v_54 := Rg.lt_l (nle_lt c_626) r_592 (Rg.c (c := 72) (k := 72) rfl) (by decide)
      refine lv_iload_n hx hb dX0_add_19 rfl (lv_at hl 4 rfl) ?_
      refine lv_iload hx hb dX0_add_20 (lv_at hl 0 rfl) ?_
      refine lv_ishr hx hb dX0_add_22 ?_
      refine lv_topi (fun x_656 e_657 => ?_)
      refine lv_iconst (v := 1) hx hb dX0_add_23 (by decide) ?_
      refine lv_iand hx hb dX0_add_24 ?_
      refine lv_topi (fun x_658 e_659 => ?_)
      have r_660 : Rg 0 1 x_658 := Rg.and e_659 (Rg.c (c := 1) (k := 1) rfl) (by decide)
      refine w_cut (σ := (Int32) × (Nat → Int32)) (fun x9 H locs ls => match x9 with | (v_671, g_672) => Rg 0 72 v_671 ∧ va_P D vwCl [(ha, .inr (0, [.ref as, .ref ad, .int v_671])), (as, .inl ((cs 0), 8, .inl gs)), (ad, .inl ((cs 0), 72, .inl g_672))] H ∧ va_D A [(ha, .inr (0, [.ref as, .ref ad, .int v_671])), (as, .inl ((cs 0), 8, .inl gs)), (ad, .inl ((cs 0), 72, .inl g_672))] ∧ va_S A s.heap H locs ∧ lv_has ls 5 [(4, .int v_53), (0, .ref ha), (1, .int x), (2, .int b), (3, .int h)]) 54 (fun x9 => match x9 with | (v_671, g_672) => []) ?_ (fun hj_673 => ?_)
      · rintro ⟨v_671, g_672⟩ H locs ls ⟨r_674, hP, hD, hS, hl⟩
        obtain ⟨x_675, e_676⟩ : ∃ z : Int32, z = v_53 + Int32.ofInt 1 := ⟨_, rfl⟩
        have r_677 : Rg 1 8 x_675 := Rg.add e_676 r_595 (Rg.c (c := Int32.ofInt 1) (k := 1) rfl) (by decide)
        refine lv_iinc (v := x_675) (lv' := [(4, .int x_675), (0, .ref ha), (1, .int x), (2, .int b), (3, .int h)]) hx hb dX0_add_54 hl (k := 0) rfl (e_676.symm) (by decide) rfl (fun ls hl => ?_)
        refine lv_goto (tgt := 3) hx hb dX0_add_57 (by decide) ?_
        exact ih_590 (x_675, v_671, g_672) _ _ _ ⟨(Rg.wk (lo2 := 0) (hi2 := 8) r_677 (by decide)), r_674, hP, hD, hS, lv_sub hl [0, 1, 2, 3, 4] rfl⟩ (ms_up e_676 r_595 (Rg.c (c := Int32.ofInt 1) (k := 1) rfl) (by decide))
      · refine lv_if_eq (tgt := 54) hx hb dX0_add_25 (by decide) (fun c_661 => ?_) (fun c_661 => ?_)
        · have r_662 : Rg 0 0 x_658 := Rg.eq_l c_661 r_660 (Rg.c (c := 0) (k := 0) rfl) (by decide)
          exact hj_673 (v_54, g_55) _ _ _ ⟨(Rg.wk (lo2 := 0) (hi2 := 72) r_628 (by decide)), hP, hD, hS, lv_sub hl [0, 1, 2, 3, 4] rfl⟩
        · have r_663 : Rg 1 1 x_658 := Rg.ne c_661 r_660 (Rg.c (c := 0) (k := 0) rfl) (by decide)
          refine lv_aload_n hx hb dX0_add_28 rfl (lv_at hl 1 rfl) ?_
          refine va_get (D := D) (ci := 0) (v := .ref ad) (C := "WrongHole$Acts") (T := TX0) (N := 3) hx hb hts (iq_RX0 _) hown hK hP 0 rfl rfl 1 (by decide) (hT _ qq_1_164) (fun _ h9 => h9) rfl dX0_add_29 ?_
          refine lv_aload_n hx hb dX0_add_32 rfl (lv_at hl 1 rfl) ?_
          refine va_get (D := D) (ci := 0) (v := .int v_54) (C := "WrongHole$Acts") (T := TX0) (N := 3) hx hb hts (iq_RX0 _) hown hK hP 0 rfl rfl 2 (by decide) (hT _ qq_1_167) (fun _ h9 => h9) rfl dX0_add_33 ?_
          refine lv_iload_n hx hb dX0_add_36 rfl (lv_at hl 2 rfl) ?_
          refine lv_iload_n hx hb dX0_add_37 rfl (lv_at hl 3 rfl) ?_
          refine lv_iload hx hb dX0_add_38 (lv_at hl 0 rfl) ?_
          have hPc := va_P.sub (ws' := []) hP [] rfl
          refine cl_P (W.runS (As := [.int x, .int b, .int v_53]) (rest := [.int v_54, .ref ad]) ⟨hx, hb, hml, hown, hts⟩ (c_Rows_actOf l D cs x b v_53) ⟨callB_of 3 hts (gd_C qq_3_33) rfl rfl rfl (hT _ qq_1_16) (hT _ qq_4_76) (by decide +kernel) (rm_R rfl rfl), (hT _ qq_3_32)⟩ (pq_S hPc hK hN) rfl rfl hl.1 rfl (lv_room (Nat.le_of_ble_eq_true rfl)) dX0_add_40 ⟨Nat.le_of_ble_eq_true rfl, Nat.le_of_ble_eq_true rfl⟩) (fun v9 hz_679 => ?_)
          obtain ⟨x_678, rfl⟩ := hz_679
          have hi_681 : vp_in v_54 72 := Rg.in r_628 (by decide)
          refine va_iast hx hb hK hP hD hS 2 0 rfl rfl hi_681 dX0_add_43 (fun H locs hP hD hS => ?_)
          obtain ⟨g_682, hP, hD⟩ : ∃ g_682 : Nat → Int32, va_P D vwCl [(ha, .inr (0, [.ref as, .ref ad, .int v_54])), (as, .inl ((cs 0), 8, .inl gs)), (ad, .inl ((cs 0), 72, .inl g_682))] H ∧ va_D A [(ha, .inr (0, [.ref as, .ref ad, .int v_54])), (as, .inl ((cs 0), 8, .inl gs)), (ad, .inl ((cs 0), 72, .inl g_682))] := ⟨_, hP, hD⟩
          refine lv_aload_n hx hb dX0_add_44 rfl (lv_at hl 1 rfl) ?_
          refine lv_dup hx hb dX0_add_45 rfl ?_
          refine va_get (D := D) (ci := 0) (v := .int v_54) (C := "WrongHole$Acts") (T := TX0) (N := 3) hx hb hts (iq_RX0 _) hown hK hP 0 rfl rfl 2 (by decide) (hT _ qq_1_167) (fun _ h9 => h9) rfl dX0_add_46 ?_
          refine lv_iconst (v := 1) hx hb dX0_add_49 (by decide) ?_
          refine lv_iadd hx hb dX0_add_50 ?_
          refine lv_topi (fun x_683 e_684 => ?_)
          have r_685 : Rg 1 72 x_683 := Rg.add e_684 r_628 (Rg.c (c := 1) (k := 1) rfl) (by decide)
          refine va_put (D := D) (ci := 0) (v := .int x_683) (ty := .int) (C := "WrongHole$Acts") (T := TX0) (N := 3) hx hb hts (iq_RX0 _) tyX0 tyX0_ok nmX0 hown hK hP hD hS 0 rfl rfl 2 (by decide) (hT _ qq_1_167) (fun _ h9 => h9) rfl (by decide +kernel) rfl rfl (Nat.le_of_ble_eq_true rfl) dX0_add_51 (fun H locs hP hD hS => ?_)
          have hP : va_P D vwCl [(ha, .inr (0, [.ref as, .ref ad, .int x_683])), (as, .inl ((cs 0), 8, .inl gs)), (ad, .inl ((cs 0), 72, .inl g_682))] H := hP
          have hD : va_D A [(ha, .inr (0, [.ref as, .ref ad, .int x_683])), (as, .inl ((cs 0), 8, .inl gs)), (ad, .inl ((cs 0), 72, .inl g_682))] := hD
          exact hj_673 (x_683, g_682) _ _ _ ⟨(Rg.wk (lo2 := 0) (hi2 := 72) r_685 (by decide)), hP, hD, hS, lv_sub hl [0, 1, 2, 3, 4] rfl⟩
theorem dX0_survey_0 : decode cX0_survey 0 = .ok (.iload_n 2, 1) := by decide +kernel
theorem dX0_survey_1 : decode cX0_survey 1 = .ok (.invokestatic 16, 3) := by decide +kernel
theorem qq_4_69 : Cond.methodLink "WrongHole$Acts" 16 yX6_in ∈ TB := mk_tb (ti_4 (List.mem_of_getElem? (i := 69) rfl)) rfl
theorem dX0_survey_4 : decode cX0_survey 4 = .ok (.istore_n 3, 1) := by decide +kernel
theorem dX0_survey_5 : decode cX0_survey 5 = .ok (.iload_n 2, 1) := by decide +kernel
theorem dX0_survey_6 : decode cX0_survey 6 = .ok (.invokestatic 22, 3) := by decide +kernel
theorem qq_4_70 : Cond.methodLink "WrongHole$Acts" 22 yX6_held ∈ TB := mk_tb (ti_4 (List.mem_of_getElem? (i := 70) rfl)) rfl
theorem dX0_survey_9 : decode cX0_survey 9 = .ok (.istore 4, 2) := by decide +kernel
theorem dX0_survey_11 : decode cX0_survey 11 = .ok (.iconst 0, 1) := by decide +kernel
theorem dX0_survey_12 : decode cX0_survey 12 = .ok (.istore 5, 2) := by decide +kernel
theorem dX0_survey_14 : decode cX0_survey 14 = .ok (.iconst 0, 1) := by decide +kernel
theorem dX0_survey_15 : decode cX0_survey 15 = .ok (.istore 6, 2) := by decide +kernel
theorem dX0_survey_17 : decode cX0_survey 17 = .ok (.iload 6, 2) := by decide +kernel
theorem dX0_survey_19 : decode cX0_survey 19 = .ok (.aload_n 1, 1) := by decide +kernel
theorem dX0_survey_20 : decode cX0_survey 20 = .ok (.getfield 25, 3) := by decide +kernel
theorem nq_2_30 : Cond.fieldLinkNest "WrongHole$Acts" 25 "WrongHole$Lift" "buttons" "I" "WrongHole" ∈ NW := mk_nw (ti_2 (List.mem_of_getElem? (i := 30) rfl)) rfl
theorem dX0_survey_23 : decode cX0_survey 23 = .ok (.if_icmp .ge 92, 3) := by decide +kernel
theorem dX0_survey_115 : decode cX0_survey 115 = .ok (.return_, 1) := by decide +kernel
theorem dX0_survey_26 : decode cX0_survey 26 = .ok (.iload 4, 2) := by decide +kernel
theorem dX0_survey_28 : decode cX0_survey 28 = .ok (.iload 4, 2) := by decide +kernel
theorem dX0_survey_30 : decode cX0_survey 30 = .ok (.ineg, 1) := by decide +kernel
theorem dX0_survey_31 : decode cX0_survey 31 = .ok (.iand, 1) := by decide +kernel
theorem dX0_survey_32 : decode cX0_survey 32 = .ok (.istore 7, 2) := by decide +kernel
theorem dX0_survey_34 : decode cX0_survey 34 = .ok (.iload_n 3, 1) := by decide +kernel
theorem dX0_survey_35 : decode cX0_survey 35 = .ok (.iload 6, 2) := by decide +kernel
theorem dX0_survey_37 : decode cX0_survey 37 = .ok (.ishr, 1) := by decide +kernel
theorem dX0_survey_38 : decode cX0_survey 38 = .ok (.iconst 1, 1) := by decide +kernel
theorem dX0_survey_39 : decode cX0_survey 39 = .ok (.iand, 1) := by decide +kernel
theorem dX0_survey_40 : decode cX0_survey 40 = .ok (.ifCond .eq 30, 3) := by decide +kernel
theorem dX0_survey_109 : decode cX0_survey 109 = .ok (.iinc 6 1, 3) := by decide +kernel
theorem dX0_survey_112 : decode cX0_survey 112 = .ok (.goto (-95), 3) := by decide +kernel
theorem dX0_survey_70 : decode cX0_survey 70 = .ok (.iload 7, 2) := by decide +kernel
theorem dX0_survey_72 : decode cX0_survey 72 = .ok (.ifCond .ne 9, 3) := by decide +kernel
theorem dX0_survey_85 : decode cX0_survey 85 = .ok (.istore 8, 2) := by decide +kernel
theorem dX0_survey_87 : decode cX0_survey 87 = .ok (.aload_n 0, 1) := by decide +kernel
theorem dX0_survey_88 : decode cX0_survey 88 = .ok (.getfield 7, 3) := by decide +kernel
theorem qq_1_162 : Cond.fieldLink "WrongHole$Acts" 7 "WrongHole$Acts" "spots" "[I" ∈ TB := mk_tb (ti_1 (List.mem_of_getElem? (i := 162) rfl)) rfl
theorem dX0_survey_91 : decode cX0_survey 91 = .ok (.iload 6, 2) := by decide +kernel
theorem dX0_survey_93 : decode cX0_survey 93 = .ok (.iload 8, 2) := by decide +kernel
theorem dX0_survey_95 : decode cX0_survey 95 = .ok (.iload 5, 2) := by decide +kernel
theorem dX0_survey_97 : decode cX0_survey 97 = .ok (.iconst (-1), 1) := by decide +kernel
theorem dX0_survey_98 : decode cX0_survey 98 = .ok (.ixor, 1) := by decide +kernel
theorem dX0_survey_99 : decode cX0_survey 99 = .ok (.iand, 1) := by decide +kernel
theorem dX0_survey_100 : decode cX0_survey 100 = .ok (.aload_n 1, 1) := by decide +kernel
theorem dX0_survey_101 : decode cX0_survey 101 = .ok (.getfield 31, 3) := by decide +kernel
theorem nq_2_80 : Cond.fieldLinkNest "WrongHole$Acts" 31 "WrongHole$Lift" "fitting" "[I" "WrongHole" ∈ NW := mk_nw (ti_2 (List.mem_of_getElem? (i := 80) rfl)) rfl
theorem dX0_survey_104 : decode cX0_survey 104 = .ok (.iload 6, 2) := by decide +kernel
theorem dX0_survey_106 : decode cX0_survey 106 = .ok (.iaload, 1) := by decide +kernel
theorem dX0_survey_107 : decode cX0_survey 107 = .ok (.iand, 1) := by decide +kernel
theorem dX0_survey_108 : decode cX0_survey 108 = .ok (.iastore, 1) := by decide +kernel
theorem dX0_survey_81 : decode cX0_survey 81 = .ok (.iload 7, 2) := by decide +kernel
theorem dX0_survey_83 : decode cX0_survey 83 = .ok (.iconst 1, 1) := by decide +kernel
theorem dX0_survey_84 : decode cX0_survey 84 = .ok (.isub, 1) := by decide +kernel
theorem dX0_survey_75 : decode cX0_survey 75 = .ok (.sipush 255, 3) := by decide +kernel
theorem dX0_survey_78 : decode cX0_survey 78 = .ok (.goto 7, 3) := by decide +kernel
theorem dX0_survey_43 : decode cX0_survey 43 = .ok (.aload_n 0, 1) := by decide +kernel
theorem dX0_survey_44 : decode cX0_survey 44 = .ok (.getfield 7, 3) := by decide +kernel
theorem dX0_survey_47 : decode cX0_survey 47 = .ok (.iload 6, 2) := by decide +kernel
theorem dX0_survey_49 : decode cX0_survey 49 = .ok (.iload 7, 2) := by decide +kernel
theorem dX0_survey_51 : decode cX0_survey 51 = .ok (.iastore, 1) := by decide +kernel
theorem dX0_survey_52 : decode cX0_survey 52 = .ok (.iload 4, 2) := by decide +kernel
theorem dX0_survey_54 : decode cX0_survey 54 = .ok (.iload 7, 2) := by decide +kernel
theorem dX0_survey_56 : decode cX0_survey 56 = .ok (.ixor, 1) := by decide +kernel
theorem dX0_survey_57 : decode cX0_survey 57 = .ok (.istore 4, 2) := by decide +kernel
theorem dX0_survey_59 : decode cX0_survey 59 = .ok (.iload 7, 2) := by decide +kernel
theorem dX0_survey_61 : decode cX0_survey 61 = .ok (.iconst 1, 1) := by decide +kernel
theorem dX0_survey_62 : decode cX0_survey 62 = .ok (.ishl, 1) := by decide +kernel
theorem dX0_survey_63 : decode cX0_survey 63 = .ok (.iconst 1, 1) := by decide +kernel
theorem dX0_survey_64 : decode cX0_survey 64 = .ok (.isub, 1) := by decide +kernel
theorem dX0_survey_65 : decode cX0_survey 65 = .ok (.istore 5, 2) := by decide +kernel
theorem dX0_survey_67 : decode cX0_survey 67 = .ok (.goto 42, 3) := by decide +kernel
set_option maxHeartbeats 4000000 in
set_option maxRecDepth 100000 in
theorem c_Acts_survey (l : Launch) (D : va_G) (cs : Nat → ClassId) (X : XX) (sz : Nat) (ha : Nat) (as : Nat) (ad : Nat) (ac : Int32) (gs : Nat → Int32) (gc : Nat → Int32) (hl0 : Nat) (lb : Int32) (lh : Int32) (lg : Int32) (lw : Int32) (lv : Int32) (lbs : Int32) (lti : Int32) (lts : Int32) (le : Int32) (lk : Int32) (la : Int32) (l0 : Nat) (l1 : Nat) (l2 : Nat) (l3 : Nat) (l4 : Nat) (l5 : Nat) (l6 : Nat) (l7 : Nat) (f5 : Nat → Int32) (a : Int32) (r_ac : Rg 0 72 ac) (r_lb : Rg 0 8 lb) (r_lh : Rg 0 8 lh) (r_le : Rg 0 6 le) : Met l yX0_survey (Cond.code yX0_survey cX0_survey 9 none :: TB) (RM 1 0 0) (va_Pc [.ref ha, .ref hl0, .int a] (PRE D cs X [(ha, .inr (0, [.ref as, .ref ad, .int ac])), (as, .inl ((cs 0), 8, .inl gs)), (ad, .inl ((cs 0), 72, .inl gc))] [(hl0, .inr (2, [.int lb, .int lh, .int lg, .int lw, .int lv, .int lbs, .int lti, .int lts, .int le, .int lk, .int la, .ref l0, .ref l1, .ref l2, .ref l3, .ref l4, .ref l5, .ref l6, .ref l7])), (l5, .inl ((cs 0), 8, .inl f5))] sz)) (va_Qv (S := Unit) (fun _ => True) (fun _ t => ∃ (ac2 : Int32), ∃ (gs2 : Nat → Int32), ∃ (gc2 : Nat → Int32), Rg 0 72 ac2 ∧ va_P D vwCl [(ha, .inr (0, [.ref as, .ref ad, .int ac2])), (as, .inl ((cs 0), 8, .inl gs2)), (ad, .inl ((cs 0), 72, .inl gc2))] t.heap ∧ va_D (va_A [(ha, .inr (0, [.ref as, .ref ad, .int ac])), (as, .inl ((cs 0), 8, .inl gs)), (ad, .inl ((cs 0), 72, .inl gc))] sz) [(ha, .inr (0, [.ref as, .ref ad, .int ac2])), (as, .inl ((cs 0), 8, .inl gs2)), (ad, .inl ((cs 0), 72, .inl gc2))]) (va_A [(ha, .inr (0, [.ref as, .ref ad, .int ac])), (as, .inl ((cs 0), 8, .inl gs)), (ad, .inl ((cs 0), 72, .inl gc))] sz)) 0 0 (va_A [(ha, .inr (0, [.ref as, .ref ad, .int ac])), (as, .inl ((cs 0), 8, .inl gs)), (ad, .inl ((cs 0), 72, .inl gc))] sz) := by
  refine MET (y := yX0_survey) (cc := cX0_survey) (maxL := 9) (ret := none) (d := 1) (mc := 0) (ms := 0) (D := D) (cs := cs) (X := X) (ws := [(ha, .inr (0, [.ref as, .ref ad, .int ac])), (as, .inl ((cs 0), 8, .inl gs)), (ad, .inl ((cs 0), 72, .inl gc))]) (wo := [(hl0, .inr (2, [.int lb, .int lh, .int lg, .int lw, .int lv, .int lbs, .int lti, .int lts, .int le, .int lk, .int la, .ref l0, .ref l1, .ref l2, .ref l3, .ref l4, .ref l5, .ref l6, .ref l7])), (l5, .inl ((cs 0), 8, .inl f5))]) (sz := sz) (av := [.ref ha, .ref hl0, .int a]) (Qc := fun A => va_Qv (S := Unit) (fun _ => True) (fun _ t => ∃ (ac2 : Int32), ∃ (gs2 : Nat → Int32), ∃ (gc2 : Nat → Int32), Rg 0 72 ac2 ∧ va_P D vwCl [(ha, .inr (0, [.ref as, .ref ad, .int ac2])), (as, .inl ((cs 0), 8, .inl gs2)), (ad, .inl ((cs 0), 72, .inl gc2))] t.heap ∧ va_D A [(ha, .inr (0, [.ref as, .ref ad, .int ac2])), (as, .inl ((cs 0), 8, .inl gs2)), (ad, .inl ((cs 0), 72, .inl gc2))]) A) (by decide) (Nat.le_of_ble_eq_true rfl) ?_
  intro p e s m below meth c ls A H hHe hx hb hr hml hown hts hlocks hnm hP hK hD hA hS hN hR hX hXs hl
  have hD : va_D A [(ha, .inr (0, [.ref as, .ref ad, .int ac])), (as, .inl ((cs 0), 8, .inl gs)), (ad, .inl ((cs 0), 72, .inl gc))] := hD
  have hPo := hR.at hS
  obtain ⟨locs, hlc⟩ : ∃ z : List Loc, z = [] := ⟨_, rfl⟩
  rw [← hlc] at hS ⊢
  have hown : s.vm.findClass "WrongHole$Acts" = some m.cls := hown
  have hT : ∀ w ∈ TB, w.before ([.ref ha, .ref hl0, .int a] : List Value).toArray s = true := fun w h => hts w (List.mem_cons_of_mem _ h)
  have hl : lv_has ls 9 [(0, .ref ha), (1, .ref hl0), (2, .int a)] := hl
  have hP : va_P D vwCl [(ha, .inr (0, [.ref as, .ref ad, .int ac])), (as, .inl ((cs 0), 8, .inl gs)), (ad, .inl ((cs 0), 72, .inl gc))] H := hP
  refine lv_iload_n hx hb dX0_survey_0 rfl (lv_at hl 2 rfl) ?_
  have hPc := va_P.sub (ws' := []) hP [] rfl
  refine cl_P (W.runS (As := [.int a]) (rest := []) ⟨hx, hb, hml, hown, hts⟩ (c_Rows_in l D cs a) ⟨callB_of 1 hts (gd_C qq_2_230) rfl rfl rfl (hT _ qq_1_16) (hT _ qq_4_69) (by decide +kernel) (rm_R rfl rfl), (hT _ qq_2_229)⟩ (pq_S hPc hK hN) rfl rfl hl.1 rfl (lv_room (Nat.le_of_ble_eq_true rfl)) dX0_survey_1 ⟨Nat.le_of_ble_eq_true rfl, Nat.le_of_ble_eq_true rfl⟩) (fun v9 hz_2 => ?_)
  obtain ⟨x_1, rfl, r_3⟩ := hz_2
  refine lv_istore_n (lv' := [(3, .int x_1), (0, .ref ha), (1, .ref hl0), (2, .int a)]) hx hb dX0_survey_4 rfl hl (by decide) rfl (fun ls hl => ?_)
  refine lv_iload_n hx hb dX0_survey_5 rfl (lv_at hl 3 rfl) ?_
  have hPc := va_P.sub (ws' := []) hP [] rfl
  refine cl_P (W.runS (As := [.int a]) (rest := []) ⟨hx, hb, hml, hown, hts⟩ (c_Rows_held l D cs a) ⟨callB_of 1 hts (gd_C qq_3_0) rfl rfl rfl (hT _ qq_1_16) (hT _ qq_4_70) (by decide +kernel) (rm_R rfl rfl), (hT _ qq_2_239)⟩ (pq_S hPc hK hN) rfl rfl hl.1 rfl (lv_room (Nat.le_of_ble_eq_true rfl)) dX0_survey_6 ⟨Nat.le_of_ble_eq_true rfl, Nat.le_of_ble_eq_true rfl⟩) (fun v9 hz_5 => ?_)
  obtain ⟨x_4, rfl, r_6⟩ := hz_5
  refine lv_istore (lv' := [(4, .int x_4), (3, .int x_1), (0, .ref ha), (1, .ref hl0), (2, .int a)]) hx hb dX0_survey_9 hl (by decide) rfl (fun ls hl => ?_)
  refine lv_iconst (v := 0) hx hb dX0_survey_11 (by decide) ?_
  refine lv_istore (lv' := [(5, .int 0), (4, .int x_4), (3, .int x_1), (0, .ref ha), (1, .ref hl0), (2, .int a)]) hx hb dX0_survey_12 hl (by decide) rfl (fun ls hl => ?_)
  refine lv_iconst (v := 0) hx hb dX0_survey_14 (by decide) ?_
  refine lv_istore (lv' := [(6, .int 0), (5, .int 0), (4, .int x_4), (3, .int x_1), (0, .ref ha), (1, .ref hl0), (2, .int a)]) hx hb dX0_survey_15 hl (by decide) rfl (fun ls hl => ?_)
  refine w_wh (σ := (Int32) × (Int32) × (Int32) × (Nat → Int32)) (fun x9 H locs ls => match x9 with | (v_156, v_157, v_158, g_159) => Rg 0 8 v_156 ∧ va_P D vwCl [(ha, .inr (0, [.ref as, .ref ad, .int ac])), (as, .inl ((cs 0), 8, .inl g_159)), (ad, .inl ((cs 0), 72, .inl gc))] H ∧ va_D A [(ha, .inr (0, [.ref as, .ref ad, .int ac])), (as, .inl ((cs 0), 8, .inl g_159)), (ad, .inl ((cs 0), 72, .inl gc))] ∧ va_S A s.heap H locs ∧ lv_has ls 9 [(6, .int v_156), (5, .int v_157), (4, .int v_158), (3, .int x_1), (0, .ref ha), (1, .ref hl0), (2, .int a)]) (fun x9 => match x9 with | (v_156, v_157, v_158, g_159) => (8 - Int32.toInt v_156).toNat) 17 ?_ (0, 0, x_4, gs) H locs ls ⟨(Rg.wk (lo2 := 0) (hi2 := 8) (Rg.c (c := 0) (k := 0) rfl) (by decide)), hP, hD, hS, lv_sub hl [0, 1, 2, 3, 4, 5, 6] rfl⟩
  rintro ⟨v_156, v_157, v_158, g_159⟩ H locs ls ⟨r_1225, hP, hD, hS, hl⟩ ih_1224
  have hPo := hR.at hS
  refine lv_iload hx hb dX0_survey_17 (lv_at hl 0 rfl) ?_
  refine lv_aload_n hx hb dX0_survey_19 rfl (lv_at hl 5 rfl) ?_
  refine va_getN (D := D) (ci := 2) (v := .int lb) (C := "WrongHole$Lift") (T := TX2) (N := 19) hx hb hts (iq_RX2 _) hown hK hPo 0 rfl rfl 0 (by decide) (NN.f hN nq_2_30) (fun _ h9 => h9) rfl dX0_survey_20 ?_
  refine lv_icmp_ge (tgt := 115) hx hb dX0_survey_23 (by decide) (fun c_1226 => ?_) (fun c_1226 => ?_)
  · refine W.widen (k := 0) (n := 0) (Nat.le_of_ble_eq_true rfl) (Nat.le_of_ble_eq_true rfl) ?_
    have hP9 := hP.sub (ws' := [(ha, .inr (0, [.ref as, .ref ad, .int ac])), (as, .inl ((cs 0), 8, .inl g_159)), (ad, .inl ((cs 0), 72, .inl gc))]) [0, 1, 2] rfl
    have hD9 := hD.sub (ws' := [(ha, .inr (0, [.ref as, .ref ad, .int ac])), (as, .inl ((cs 0), 8, .inl g_159)), (ad, .inl ((cs 0), 72, .inl gc))]) [0, 1, 2] (by decide) rfl
    exact W.vret hx hb hr (fun t9 ht9 hW9 => ⟨⟨(), rfl, trivial, ⟨ac, g_159, gc, r_ac, by rw [ht9]; exact hP9, hD9⟩⟩, hS.F ht9⟩) hS.2.2 dX0_survey_115
  · have r_1227 : Rg 0 7 v_156 := Rg.lt_l (nle_lt c_1226) r_1225 r_lb (by decide)
    have r_1228 : Rg 1 8 lb := Rg.lt_r (nle_lt c_1226) r_1225 r_lb (by decide)
    refine lv_iload hx hb dX0_survey_26 (lv_at hl 2 rfl) ?_
    refine lv_iload hx hb dX0_survey_28 (lv_at hl 2 rfl) ?_
    refine lv_ineg hx hb dX0_survey_30 ?_
    refine lv_topi (fun x_1294 e_1295 => ?_)
    refine lv_iand hx hb dX0_survey_31 ?_
    refine lv_topi (fun x_1296 e_1297 => ?_)
    refine lv_istore (lv' := [(7, .int x_1296), (6, .int v_156), (5, .int v_157), (4, .int v_158), (3, .int x_1), (0, .ref ha), (1, .ref hl0), (2, .int a)]) hx hb dX0_survey_32 hl (by decide) rfl (fun ls hl => ?_)
    refine lv_iload_n hx hb dX0_survey_34 rfl (lv_at hl 4 rfl) ?_
    refine lv_iload hx hb dX0_survey_35 (lv_at hl 1 rfl) ?_
    refine lv_ishr hx hb dX0_survey_37 ?_
    refine lv_topi (fun x_1298 e_1299 => ?_)
    have r_1300 : Rg 0 255 x_1298 := Rg.shrn e_1299 r_3
    refine lv_iconst (v := 1) hx hb dX0_survey_38 (by decide) ?_
    refine lv_iand hx hb dX0_survey_39 ?_
    refine lv_topi (fun x_1301 e_1302 => ?_)
    have r_1303 : Rg 0 1 x_1301 := Rg.and e_1302 (Rg.c (c := 1) (k := 1) rfl) (by decide)
    refine w_cut (σ := (Int32) × (Int32) × (Nat → Int32)) (fun x9 H locs ls => match x9 with | (v_1330, v_1331, g_1332) => va_P D vwCl [(ha, .inr (0, [.ref as, .ref ad, .int ac])), (as, .inl ((cs 0), 8, .inl g_1332)), (ad, .inl ((cs 0), 72, .inl gc))] H ∧ va_D A [(ha, .inr (0, [.ref as, .ref ad, .int ac])), (as, .inl ((cs 0), 8, .inl g_1332)), (ad, .inl ((cs 0), 72, .inl gc))] ∧ va_S A s.heap H locs ∧ lv_has ls 9 [(7, .int x_1296), (6, .int v_156), (5, .int v_1330), (4, .int v_1331), (3, .int x_1), (0, .ref ha), (1, .ref hl0), (2, .int a)]) 109 (fun x9 => match x9 with | (v_1330, v_1331, g_1332) => []) ?_ (fun hj_1333 => ?_)
    · rintro ⟨v_1330, v_1331, g_1332⟩ H locs ls ⟨hP, hD, hS, hl⟩
      have hPo := hR.at hS
      obtain ⟨x_1334, e_1335⟩ : ∃ z : Int32, z = v_156 + Int32.ofInt 1 := ⟨_, rfl⟩
      have r_1336 : Rg 1 8 x_1334 := Rg.add e_1335 r_1227 (Rg.c (c := Int32.ofInt 1) (k := 1) rfl) (by decide)
      refine lv_iinc (v := x_1334) (lv' := [(6, .int x_1334), (7, .int x_1296), (5, .int v_1330), (4, .int v_1331), (3, .int x_1), (0, .ref ha), (1, .ref hl0), (2, .int a)]) hx hb dX0_survey_109 hl (k := 1) rfl (e_1335.symm) (by decide) rfl (fun ls hl => ?_)
      refine lv_goto (tgt := 17) hx hb dX0_survey_112 (by decide) ?_
      exact ih_1224 (x_1334, v_1330, v_1331, g_1332) _ _ _ ⟨(Rg.wk (lo2 := 0) (hi2 := 8) r_1336 (by decide)), hP, hD, hS, lv_sub hl [0, 2, 3, 4, 5, 6, 7] rfl⟩ (ms_up e_1335 r_1227 (Rg.c (c := Int32.ofInt 1) (k := 1) rfl) (by decide))
    · refine lv_if_eq (tgt := 70) hx hb dX0_survey_40 (by decide) (fun c_1304 => ?_) (fun c_1304 => ?_)
      · have r_1305 : Rg 0 0 x_1301 := Rg.eq_l c_1304 r_1303 (Rg.c (c := 0) (k := 0) rfl) (by decide)
        refine lv_iload hx hb dX0_survey_70 (lv_at hl 0 rfl) ?_
        refine w_cut (σ := (Int32)) (fun (v_1341 : Int32) H locs ls => va_P D vwCl [(ha, .inr (0, [.ref as, .ref ad, .int ac])), (as, .inl ((cs 0), 8, .inl g_159)), (ad, .inl ((cs 0), 72, .inl gc))] H ∧ va_D A [(ha, .inr (0, [.ref as, .ref ad, .int ac])), (as, .inl ((cs 0), 8, .inl g_159)), (ad, .inl ((cs 0), 72, .inl gc))] ∧ va_S A s.heap H locs ∧ lv_has ls 9 [(7, .int x_1296), (6, .int v_156), (5, .int v_157), (4, .int v_158), (3, .int x_1), (0, .ref ha), (1, .ref hl0), (2, .int a)]) 85 (fun (v_1341 : Int32) => [.int v_1341]) ?_ (fun hj_1342 => ?_)
        · rintro v_1341 H locs ls ⟨hP, hD, hS, hl⟩
          have hPo := hR.at hS
          refine lv_istore (lv' := [(8, .int v_1341), (7, .int x_1296), (6, .int v_156), (5, .int v_157), (4, .int v_158), (3, .int x_1), (0, .ref ha), (1, .ref hl0), (2, .int a)]) hx hb dX0_survey_85 hl (by decide) rfl (fun ls hl => ?_)
          refine lv_aload_n hx hb dX0_survey_87 rfl (lv_at hl 6 rfl) ?_
          refine va_get (D := D) (ci := 0) (v := .ref as) (C := "WrongHole$Acts") (T := TX0) (N := 3) hx hb hts (iq_RX0 _) hown hK hP 0 rfl rfl 0 (by decide) (hT _ qq_1_162) (fun _ h9 => h9) rfl dX0_survey_88 ?_
          refine lv_iload hx hb dX0_survey_91 (lv_at hl 2 rfl) ?_
          refine lv_iload hx hb dX0_survey_93 (lv_at hl 0 rfl) ?_
          refine lv_iload hx hb dX0_survey_95 (lv_at hl 3 rfl) ?_
          refine lv_iconst (v := (-1)) hx hb dX0_survey_97 (by decide) ?_
          refine lv_ixor hx hb dX0_survey_98 ?_
          refine lv_topi (fun x_1343 e_1344 => ?_)
          refine lv_iand hx hb dX0_survey_99 ?_
          refine lv_topi (fun x_1345 e_1346 => ?_)
          refine lv_aload_n hx hb dX0_survey_100 rfl (lv_at hl 7 rfl) ?_
          refine va_getN (D := D) (ci := 2) (v := .ref l5) (C := "WrongHole$Lift") (T := TX2) (N := 19) hx hb hts (iq_RX2 _) hown hK hPo 0 rfl rfl 16 (by decide) (NN.f hN nq_2_80) (fun _ h9 => h9) rfl dX0_survey_101 ?_
          refine lv_iload hx hb dX0_survey_104 (lv_at hl 2 rfl) ?_
          have hi_1347 : vp_in v_156 8 := Rg.in r_1227 (by decide)
          refine va_iald hx hb hK hPo 1 0 rfl rfl hi_1347 dX0_survey_106 ?_
          refine lv_topi (fun x_1348 e_1349 => ?_)
          refine lv_iand hx hb dX0_survey_107 ?_
          refine lv_topi (fun x_1350 e_1351 => ?_)
          have hi_1352 : vp_in v_156 8 := Rg.in r_1227 (by decide)
          refine va_iast hx hb hK hP hD hS 1 0 rfl rfl hi_1352 dX0_survey_108 (fun H locs hP hD hS => ?_)
          obtain ⟨g_1353, hP, hD⟩ : ∃ g_1353 : Nat → Int32, va_P D vwCl [(ha, .inr (0, [.ref as, .ref ad, .int ac])), (as, .inl ((cs 0), 8, .inl g_1353)), (ad, .inl ((cs 0), 72, .inl gc))] H ∧ va_D A [(ha, .inr (0, [.ref as, .ref ad, .int ac])), (as, .inl ((cs 0), 8, .inl g_1353)), (ad, .inl ((cs 0), 72, .inl gc))] := ⟨_, hP, hD⟩
          have hPo := hR.at hS
          exact hj_1333 (v_157, v_158, g_1353) _ _ _ ⟨hP, hD, hS, lv_sub hl [1, 2, 3, 4, 5, 6, 7, 8] rfl⟩
        · refine lv_if_ne (tgt := 81) hx hb dX0_survey_72 (by decide) (fun c_1337 => ?_) (fun c_1337 => ?_)
          · refine lv_iload hx hb dX0_survey_81 (lv_at hl 0 rfl) ?_
            refine lv_iconst (v := 1) hx hb dX0_survey_83 (by decide) ?_
            refine lv_isub hx hb dX0_survey_84 ?_
            refine lv_topi (fun x_1354 e_1355 => ?_)
            exact hj_1342 x_1354 _ _ _ ⟨hP, hD, hS, lv_sub hl [0, 1, 2, 3, 4, 5, 6, 7] rfl⟩
          · have r_1338 : Rg 0 0 x_1296 := Rg.eq_l c_1337 (Rg.top x_1296) (Rg.c (c := 0) (k := 0) rfl) (by decide)
            refine lv_sipush (v := 255) hx hb dX0_survey_75 (by decide) ?_
            refine lv_goto (tgt := 85) hx hb dX0_survey_78 (by decide) ?_
            exact hj_1342 255 _ _ _ ⟨hP, hD, hS, lv_sub hl [0, 1, 2, 3, 4, 5, 6, 7] rfl⟩
      · have r_1306 : Rg 1 1 x_1301 := Rg.ne c_1304 r_1303 (Rg.c (c := 0) (k := 0) rfl) (by decide)
        refine lv_aload_n hx hb dX0_survey_43 rfl (lv_at hl 5 rfl) ?_
        refine va_get (D := D) (ci := 0) (v := .ref as) (C := "WrongHole$Acts") (T := TX0) (N := 3) hx hb hts (iq_RX0 _) hown hK hP 0 rfl rfl 0 (by decide) (hT _ qq_1_162) (fun _ h9 => h9) rfl dX0_survey_44 ?_
        refine lv_iload hx hb dX0_survey_47 (lv_at hl 1 rfl) ?_
        refine lv_iload hx hb dX0_survey_49 (lv_at hl 0 rfl) ?_
        have hi_1356 : vp_in v_156 8 := Rg.in r_1227 (by decide)
        refine va_iast hx hb hK hP hD hS 1 0 rfl rfl hi_1356 dX0_survey_51 (fun H locs hP hD hS => ?_)
        obtain ⟨g_1357, hP, hD⟩ : ∃ g_1357 : Nat → Int32, va_P D vwCl [(ha, .inr (0, [.ref as, .ref ad, .int ac])), (as, .inl ((cs 0), 8, .inl g_1357)), (ad, .inl ((cs 0), 72, .inl gc))] H ∧ va_D A [(ha, .inr (0, [.ref as, .ref ad, .int ac])), (as, .inl ((cs 0), 8, .inl g_1357)), (ad, .inl ((cs 0), 72, .inl gc))] := ⟨_, hP, hD⟩
        have hPo := hR.at hS
        refine lv_iload hx hb dX0_survey_52 (lv_at hl 3 rfl) ?_
        refine lv_iload hx hb dX0_survey_54 (lv_at hl 0 rfl) ?_
        refine lv_ixor hx hb dX0_survey_56 ?_
        refine lv_topi (fun x_1358 e_1359 => ?_)
        refine lv_istore (lv' := [(4, .int x_1358), (7, .int x_1296), (6, .int v_156), (5, .int v_157), (3, .int x_1), (0, .ref ha), (1, .ref hl0), (2, .int a)]) hx hb dX0_survey_57 hl (by decide) rfl (fun ls hl => ?_)
        refine lv_iload hx hb dX0_survey_59 (lv_at hl 1 rfl) ?_
        refine lv_iconst (v := 1) hx hb dX0_survey_61 (by decide) ?_
        refine lv_ishl hx hb dX0_survey_62 ?_
        refine lv_topi (fun x_1360 e_1361 => ?_)
        refine lv_iconst (v := 1) hx hb dX0_survey_63 (by decide) ?_
        refine lv_isub hx hb dX0_survey_64 ?_
        refine lv_topi (fun x_1362 e_1363 => ?_)
        refine lv_istore (lv' := [(5, .int x_1362), (4, .int x_1358), (7, .int x_1296), (6, .int v_156), (3, .int x_1), (0, .ref ha), (1, .ref hl0), (2, .int a)]) hx hb dX0_survey_65 hl (by decide) rfl (fun ls hl => ?_)
        refine lv_goto (tgt := 109) hx hb dX0_survey_67 (by decide) ?_
        exact hj_1333 (x_1362, x_1358, g_1357) _ _ _ ⟨hP, hD, hS, lv_sub hl [2, 3, 0, 1, 4, 5, 6, 7] rfl⟩
theorem dX0_gather_0 : decode cX0_gather 0 = .ok (.aload_n 0, 1) := by decide +kernel
theorem dX0_gather_1 : decode cX0_gather 1 = .ok (.aload_n 1, 1) := by decide +kernel
theorem dX0_gather_2 : decode cX0_gather 2 = .ok (.iload_n 2, 1) := by decide +kernel
theorem dX0_gather_3 : decode cX0_gather 3 = .ok (.invokevirtual 34, 3) := by decide +kernel
theorem qq_4_68 : Cond.code yX0_survey cX0_survey 9 none ∈ TB := mk_tb (ti_4 (List.mem_of_getElem? (i := 68) rfl)) rfl
theorem qq_1_7 : Cond.initialized "WrongHole$Acts" ∈ TB := mk_tb (ti_1 (List.mem_of_getElem? (i := 7) rfl)) rfl
theorem qq_4_65 : Cond.methodLink "WrongHole$Acts" 34 yX0_survey ∈ TB := mk_tb (ti_4 (List.mem_of_getElem? (i := 65) rfl)) rfl
theorem qq_4_66 : Cond.instanceMethod yX0_survey ∈ TB := mk_tb (ti_4 (List.mem_of_getElem? (i := 66) rfl)) rfl
theorem qq_4_67 : Cond.selects "WrongHole$Acts" yX0_survey yX0_survey ∈ TB := mk_tb (ti_4 (List.mem_of_getElem? (i := 67) rfl)) rfl
theorem dX0_gather_6 : decode cX0_gather 6 = .ok (.aload_n 0, 1) := by decide +kernel
theorem dX0_gather_7 : decode cX0_gather 7 = .ok (.iconst 0, 1) := by decide +kernel
theorem dX0_gather_8 : decode cX0_gather 8 = .ok (.putfield 38, 3) := by decide +kernel
theorem dX0_gather_11 : decode cX0_gather 11 = .ok (.iload_n 2, 1) := by decide +kernel
theorem dX0_gather_12 : decode cX0_gather 12 = .ok (.invokestatic 16, 3) := by decide +kernel
theorem dX0_gather_15 : decode cX0_gather 15 = .ok (.istore_n 3, 1) := by decide +kernel
theorem dX0_gather_16 : decode cX0_gather 16 = .ok (.iconst 0, 1) := by decide +kernel
theorem dX0_gather_17 : decode cX0_gather 17 = .ok (.istore 4, 2) := by decide +kernel
theorem dX0_gather_19 : decode cX0_gather 19 = .ok (.iload 4, 2) := by decide +kernel
theorem dX0_gather_21 : decode cX0_gather 21 = .ok (.aload_n 1, 1) := by decide +kernel
theorem dX0_gather_22 : decode cX0_gather 22 = .ok (.getfield 25, 3) := by decide +kernel
theorem dX0_gather_25 : decode cX0_gather 25 = .ok (.if_icmp .ge 47, 3) := by decide +kernel
theorem dX0_gather_72 : decode cX0_gather 72 = .ok (.iconst 0, 1) := by decide +kernel
theorem dX0_gather_73 : decode cX0_gather 73 = .ok (.istore 4, 2) := by decide +kernel
theorem dX0_gather_75 : decode cX0_gather 75 = .ok (.iload 4, 2) := by decide +kernel
theorem dX0_gather_77 : decode cX0_gather 77 = .ok (.aload_n 1, 1) := by decide +kernel
theorem dX0_gather_78 : decode cX0_gather 78 = .ok (.getfield 25, 3) := by decide +kernel
theorem dX0_gather_81 : decode cX0_gather 81 = .ok (.if_icmp .ge 67, 3) := by decide +kernel
theorem dX0_gather_148 : decode cX0_gather 148 = .ok (.return_, 1) := by decide +kernel
theorem dX0_gather_84 : decode cX0_gather 84 = .ok (.iload_n 3, 1) := by decide +kernel
theorem dX0_gather_85 : decode cX0_gather 85 = .ok (.iload 4, 2) := by decide +kernel
theorem dX0_gather_87 : decode cX0_gather 87 = .ok (.ishr, 1) := by decide +kernel
theorem dX0_gather_88 : decode cX0_gather 88 = .ok (.iconst 1, 1) := by decide +kernel
theorem dX0_gather_89 : decode cX0_gather 89 = .ok (.iand, 1) := by decide +kernel
theorem dX0_gather_90 : decode cX0_gather 90 = .ok (.ifCond .ne 17, 3) := by decide +kernel
theorem dX0_gather_108 : decode cX0_gather 108 = .ok (.istore 5, 2) := by decide +kernel
theorem dX0_gather_110 : decode cX0_gather 110 = .ok (.iload 5, 2) := by decide +kernel
theorem dX0_gather_112 : decode cX0_gather 112 = .ok (.ifCond .eq 30, 3) := by decide +kernel
theorem dX0_gather_142 : decode cX0_gather 142 = .ok (.iinc 4 1, 3) := by decide +kernel
theorem dX0_gather_145 : decode cX0_gather 145 = .ok (.goto (-70), 3) := by decide +kernel
theorem dX0_gather_115 : decode cX0_gather 115 = .ok (.aload_n 1, 1) := by decide +kernel
theorem dX0_gather_116 : decode cX0_gather 116 = .ok (.iload_n 3, 1) := by decide +kernel
theorem dX0_gather_117 : decode cX0_gather 117 = .ok (.iconst 1, 1) := by decide +kernel
theorem dX0_gather_118 : decode cX0_gather 118 = .ok (.iload 4, 2) := by decide +kernel
theorem dX0_gather_120 : decode cX0_gather 120 = .ok (.ishl, 1) := by decide +kernel
theorem dX0_gather_121 : decode cX0_gather 121 = .ok (.ior, 1) := by decide +kernel
theorem dX0_gather_122 : decode cX0_gather 122 = .ok (.invokevirtual 41, 3) := by decide +kernel
theorem qq_4_71 : Cond.methodLink "WrongHole$Acts" 41 yX2_lawful ∈ TB := mk_tb (ti_4 (List.mem_of_getElem? (i := 71) rfl)) rfl
theorem dX0_gather_125 : decode cX0_gather 125 = .ok (.ifCond .eq 17, 3) := by decide +kernel
theorem dX0_gather_128 : decode cX0_gather 128 = .ok (.aload_n 0, 1) := by decide +kernel
theorem dX0_gather_129 : decode cX0_gather 129 = .ok (.iconst 1, 1) := by decide +kernel
theorem dX0_gather_130 : decode cX0_gather 130 = .ok (.iload 4, 2) := by decide +kernel
theorem dX0_gather_132 : decode cX0_gather 132 = .ok (.aload_n 0, 1) := by decide +kernel
theorem dX0_gather_133 : decode cX0_gather 133 = .ok (.getfield 7, 3) := by decide +kernel
theorem dX0_gather_136 : decode cX0_gather 136 = .ok (.iload 4, 2) := by decide +kernel
theorem dX0_gather_138 : decode cX0_gather 138 = .ok (.iaload, 1) := by decide +kernel
theorem dX0_gather_139 : decode cX0_gather 139 = .ok (.invokevirtual 45, 3) := by decide +kernel
theorem qq_4_75 : Cond.code yX0_add cX0_add 5 none ∈ TB := mk_tb (ti_4 (List.mem_of_getElem? (i := 75) rfl)) rfl
theorem qq_4_72 : Cond.methodLink "WrongHole$Acts" 45 yX0_add ∈ TB := mk_tb (ti_4 (List.mem_of_getElem? (i := 72) rfl)) rfl
theorem qq_4_74 : Cond.instanceMethod yX0_add ∈ TB := mk_tb (ti_4 (List.mem_of_getElem? (i := 74) rfl)) rfl
theorem qs_0_13 : Cond.selects "WrongHole$Acts" yX0_add yX0_add ∈ TB := mk_tb (ti_s (q := (yX0_add, 3)) (List.mem_append_left _ (List.mem_of_getElem? (i := 13) rfl))) rfl
theorem dX0_gather_107 : decode cX0_gather 107 = .ok (.iconst 0, 1) := by decide +kernel
theorem dX0_gather_93 : decode cX0_gather 93 = .ok (.aload_n 0, 1) := by decide +kernel
theorem dX0_gather_94 : decode cX0_gather 94 = .ok (.getfield 7, 3) := by decide +kernel
theorem dX0_gather_97 : decode cX0_gather 97 = .ok (.iload 4, 2) := by decide +kernel
theorem dX0_gather_99 : decode cX0_gather 99 = .ok (.iaload, 1) := by decide +kernel
theorem dX0_gather_100 : decode cX0_gather 100 = .ok (.ifCond .eq 7, 3) := by decide +kernel
theorem dX0_gather_103 : decode cX0_gather 103 = .ok (.iconst 1, 1) := by decide +kernel
theorem dX0_gather_104 : decode cX0_gather 104 = .ok (.goto 4, 3) := by decide +kernel
theorem dX0_gather_28 : decode cX0_gather 28 = .ok (.iload_n 3, 1) := by decide +kernel
theorem dX0_gather_29 : decode cX0_gather 29 = .ok (.iload 4, 2) := by decide +kernel
theorem dX0_gather_31 : decode cX0_gather 31 = .ok (.ishr, 1) := by decide +kernel
theorem dX0_gather_32 : decode cX0_gather 32 = .ok (.iconst 1, 1) := by decide +kernel
theorem dX0_gather_33 : decode cX0_gather 33 = .ok (.iand, 1) := by decide +kernel
theorem dX0_gather_34 : decode cX0_gather 34 = .ok (.ifCond .eq 32, 3) := by decide +kernel
theorem dX0_gather_66 : decode cX0_gather 66 = .ok (.iinc 4 1, 3) := by decide +kernel
theorem dX0_gather_69 : decode cX0_gather 69 = .ok (.goto (-50), 3) := by decide +kernel
theorem dX0_gather_37 : decode cX0_gather 37 = .ok (.aload_n 1, 1) := by decide +kernel
theorem dX0_gather_38 : decode cX0_gather 38 = .ok (.iload_n 3, 1) := by decide +kernel
theorem dX0_gather_39 : decode cX0_gather 39 = .ok (.iconst 1, 1) := by decide +kernel
theorem dX0_gather_40 : decode cX0_gather 40 = .ok (.iload 4, 2) := by decide +kernel
theorem dX0_gather_42 : decode cX0_gather 42 = .ok (.ishl, 1) := by decide +kernel
theorem dX0_gather_43 : decode cX0_gather 43 = .ok (.iconst (-1), 1) := by decide +kernel
theorem dX0_gather_44 : decode cX0_gather 44 = .ok (.ixor, 1) := by decide +kernel
theorem dX0_gather_45 : decode cX0_gather 45 = .ok (.iand, 1) := by decide +kernel
theorem dX0_gather_46 : decode cX0_gather 46 = .ok (.invokevirtual 41, 3) := by decide +kernel
theorem dX0_gather_49 : decode cX0_gather 49 = .ok (.ifCond .eq 17, 3) := by decide +kernel
theorem dX0_gather_52 : decode cX0_gather 52 = .ok (.aload_n 0, 1) := by decide +kernel
theorem dX0_gather_53 : decode cX0_gather 53 = .ok (.iconst 0, 1) := by decide +kernel
theorem dX0_gather_54 : decode cX0_gather 54 = .ok (.iload 4, 2) := by decide +kernel
theorem dX0_gather_56 : decode cX0_gather 56 = .ok (.aload_n 0, 1) := by decide +kernel
theorem dX0_gather_57 : decode cX0_gather 57 = .ok (.getfield 7, 3) := by decide +kernel
theorem dX0_gather_60 : decode cX0_gather 60 = .ok (.iload 4, 2) := by decide +kernel
theorem dX0_gather_62 : decode cX0_gather 62 = .ok (.iaload, 1) := by decide +kernel
theorem dX0_gather_63 : decode cX0_gather 63 = .ok (.invokevirtual 45, 3) := by decide +kernel
set_option maxHeartbeats 4000000 in
set_option maxRecDepth 100000 in
theorem c_Acts_gather (l : Launch) (D : va_G) (cs : Nat → ClassId) (X : XX) (sz : Nat) (ha : Nat) (as : Nat) (ad : Nat) (ac : Int32) (gs : Nat → Int32) (gc : Nat → Int32) (hl0 : Nat) (lb : Int32) (lh : Int32) (lg : Int32) (lw : Int32) (lv : Int32) (lbs : Int32) (lti : Int32) (lts : Int32) (le : Int32) (lk : Int32) (la : Int32) (l0 : Nat) (l1 : Nat) (l2 : Nat) (l3 : Nat) (l4 : Nat) (l5 : Nat) (l6 : Nat) (l7 : Nat) (f5 : Nat → Int32) (a : Int32) (r_ac : Rg 0 72 ac) (r_lb : Rg 0 8 lb) (r_lh : Rg 0 8 lh) (r_le : Rg 0 6 le) : Met l yX0_gather (Cond.code yX0_gather cX0_gather 6 none :: TB) (RM 2 0 0) (va_Pc [.ref ha, .ref hl0, .int a] (PRE D cs X [(ha, .inr (0, [.ref as, .ref ad, .int ac])), (as, .inl ((cs 0), 8, .inl gs)), (ad, .inl ((cs 0), 72, .inl gc))] [(hl0, .inr (2, [.int lb, .int lh, .int lg, .int lw, .int lv, .int lbs, .int lti, .int lts, .int le, .int lk, .int la, .ref l0, .ref l1, .ref l2, .ref l3, .ref l4, .ref l5, .ref l6, .ref l7])), (l5, .inl ((cs 0), 8, .inl f5))] sz)) (va_Qv (S := Unit) (fun _ => True) (fun _ t => ∃ (ac2 : Int32), ∃ (gs2 : Nat → Int32), ∃ (gc2 : Nat → Int32), Rg 0 72 ac2 ∧ va_P D vwCl [(ha, .inr (0, [.ref as, .ref ad, .int ac2])), (as, .inl ((cs 0), 8, .inl gs2)), (ad, .inl ((cs 0), 72, .inl gc2))] t.heap ∧ va_D (va_A [(ha, .inr (0, [.ref as, .ref ad, .int ac])), (as, .inl ((cs 0), 8, .inl gs)), (ad, .inl ((cs 0), 72, .inl gc))] sz) [(ha, .inr (0, [.ref as, .ref ad, .int ac2])), (as, .inl ((cs 0), 8, .inl gs2)), (ad, .inl ((cs 0), 72, .inl gc2))]) (va_A [(ha, .inr (0, [.ref as, .ref ad, .int ac])), (as, .inl ((cs 0), 8, .inl gs)), (ad, .inl ((cs 0), 72, .inl gc))] sz)) 0 0 (va_A [(ha, .inr (0, [.ref as, .ref ad, .int ac])), (as, .inl ((cs 0), 8, .inl gs)), (ad, .inl ((cs 0), 72, .inl gc))] sz) := by
  refine MET (y := yX0_gather) (cc := cX0_gather) (maxL := 6) (ret := none) (d := 2) (mc := 0) (ms := 0) (D := D) (cs := cs) (X := X) (ws := [(ha, .inr (0, [.ref as, .ref ad, .int ac])), (as, .inl ((cs 0), 8, .inl gs)), (ad, .inl ((cs 0), 72, .inl gc))]) (wo := [(hl0, .inr (2, [.int lb, .int lh, .int lg, .int lw, .int lv, .int lbs, .int lti, .int lts, .int le, .int lk, .int la, .ref l0, .ref l1, .ref l2, .ref l3, .ref l4, .ref l5, .ref l6, .ref l7])), (l5, .inl ((cs 0), 8, .inl f5))]) (sz := sz) (av := [.ref ha, .ref hl0, .int a]) (Qc := fun A => va_Qv (S := Unit) (fun _ => True) (fun _ t => ∃ (ac2 : Int32), ∃ (gs2 : Nat → Int32), ∃ (gc2 : Nat → Int32), Rg 0 72 ac2 ∧ va_P D vwCl [(ha, .inr (0, [.ref as, .ref ad, .int ac2])), (as, .inl ((cs 0), 8, .inl gs2)), (ad, .inl ((cs 0), 72, .inl gc2))] t.heap ∧ va_D A [(ha, .inr (0, [.ref as, .ref ad, .int ac2])), (as, .inl ((cs 0), 8, .inl gs2)), (ad, .inl ((cs 0), 72, .inl gc2))]) A) (by decide) (Nat.le_of_ble_eq_true rfl) ?_
  intro p e s m below meth c ls A H hHe hx hb hr hml hown hts hlocks hnm hP hK hD hA hS hN hR hX hXs hl
  have hD : va_D A [(ha, .inr (0, [.ref as, .ref ad, .int ac])), (as, .inl ((cs 0), 8, .inl gs)), (ad, .inl ((cs 0), 72, .inl gc))] := hD
  have hPo := hR.at hS
  obtain ⟨locs, hlc⟩ : ∃ z : List Loc, z = [] := ⟨_, rfl⟩
  rw [← hlc] at hS ⊢
  have hown : s.vm.findClass "WrongHole$Acts" = some m.cls := hown
  have hT : ∀ w ∈ TB, w.before ([.ref ha, .ref hl0, .int a] : List Value).toArray s = true := fun w h => hts w (List.mem_cons_of_mem _ h)
  have hl : lv_has ls 6 [(0, .ref ha), (1, .ref hl0), (2, .int a)] := hl
  have hP : va_P D vwCl [(ha, .inr (0, [.ref as, .ref ad, .int ac])), (as, .inl ((cs 0), 8, .inl gs)), (ad, .inl ((cs 0), 72, .inl gc))] H := hP
  refine lv_aload_n hx hb dX0_gather_0 rfl (lv_at hl 0 rfl) ?_
  refine lv_aload_n hx hb dX0_gather_1 rfl (lv_at hl 1 rfl) ?_
  refine lv_iload_n hx hb dX0_gather_2 rfl (lv_at hl 2 rfl) ?_
  have hPc := hP.sub (ws' := [(ha, .inr (0, [.ref as, .ref ad, .int ac])), (as, .inl ((cs 0), 8, .inl gs)), (ad, .inl ((cs 0), 72, .inl gc))]) [0, 1, 2] rfl
  have hDc := hD.sub (ws' := [(ha, .inr (0, [.ref as, .ref ad, .int ac])), (as, .inl ((cs 0), 8, .inl gs)), (ad, .inl ((cs 0), 72, .inl gc))]) [0, 1, 2] (by decide) rfl
  have hFc := va_free (wc := [(ha, .inr (0, [.ref as, .ref ad, .int ac])), (as, .inl ((cs 0), 8, .inl gs)), (ad, .inl ((cs 0), 72, .inl gc))]) hD hS hA [0, 1, 2] rfl
  refine va_callv (va_runV (As := [.ref hl0, .int a]) (rest := []) ⟨hx, hb, hml, hown, hts⟩ (c_Acts_survey l D cs X H.size ha as ad ac gs gc hl0 lb lh lg lw lv lbs lti lts le lk la l0 l1 l2 l3 l4 l5 l6 l7 f5 a r_ac r_lb r_lh r_le) ⟨callB_of 2 hts (gd_C qq_4_68) rfl rfl rfl (hT _ qq_1_7) (hT _ qq_4_65) (by decide +kernel) (rm_R rfl rfl), (hT _ qq_4_66), (hT _ qq_4_67)⟩ (pr_V hPc hK hDc hN (hR.sub (wo' := [(hl0, .inr (2, [.int lb, .int lh, .int lg, .int lw, .int lv, .int lbs, .int lti, .int lts, .int le, .int lk, .int la, .ref l0, .ref l1, .ref l2, .ref l3, .ref l4, .ref l5, .ref l6, .ref l7])), (l5, .inl ((cs 0), 8, .inl f5))]) [0, 1] rfl) hS hFc hX hXs (ci := 0) (q0 := 0) rfl rfl) rfl rfl hl.1 rfl (lv_room (Nat.le_of_ble_eq_true rfl)) dX0_gather_3 ⟨Nat.le_of_ble_eq_true rfl, Nat.le_of_ble_eq_true rfl⟩) hS (fun q _ h => hFc q h) hFc (fun u_1 t_4 H1 locs ht9 hvm hw_2 hB_3 hz1 hk1 hS => ?_)
  obtain ⟨v_6, g_7, g_8, r_9, hP1, hD1⟩ := hB_3
  rw [ht9] at hP1
  obtain ⟨hP, hD⟩ := va_join (wr := []) (w1 := [(ha, .inr (0, [.ref as, .ref ad, .int v_6])), (as, .inl ((cs 0), 8, .inl g_7)), (ad, .inl ((cs 0), 72, .inl g_8))]) hP hD [0, 1, 2] [] rfl rfl (by decide) (by decide) hk1 hFc hP1 hD1
  generalize H1 = H at hP hS ⊢
  have hP : va_P D vwCl [(ha, .inr (0, [.ref as, .ref ad, .int v_6])), (as, .inl ((cs 0), 8, .inl g_7)), (ad, .inl ((cs 0), 72, .inl g_8))] H := hP
  have hD : va_D A [(ha, .inr (0, [.ref as, .ref ad, .int v_6])), (as, .inl ((cs 0), 8, .inl g_7)), (ad, .inl ((cs 0), 72, .inl g_8))] := hD
  have hPo := hR.at hS
  refine lv_aload_n hx hb dX0_gather_6 rfl (lv_at hl 0 rfl) ?_
  refine lv_iconst (v := 0) hx hb dX0_gather_7 (by decide) ?_
  refine va_put (D := D) (ci := 0) (v := .int 0) (ty := .int) (C := "WrongHole$Acts") (T := TX0) (N := 3) hx hb hts (iq_RX0 _) tyX0 tyX0_ok nmX0 hown hK hP hD hS 0 rfl rfl 2 (by decide) (hT _ qq_1_167) (fun _ h9 => h9) rfl (by decide +kernel) rfl rfl (Nat.le_of_ble_eq_true rfl) dX0_gather_8 (fun H locs hP hD hS => ?_)
  have hP : va_P D vwCl [(ha, .inr (0, [.ref as, .ref ad, .int 0])), (as, .inl ((cs 0), 8, .inl g_7)), (ad, .inl ((cs 0), 72, .inl g_8))] H := hP
  have hD : va_D A [(ha, .inr (0, [.ref as, .ref ad, .int 0])), (as, .inl ((cs 0), 8, .inl g_7)), (ad, .inl ((cs 0), 72, .inl g_8))] := hD
  have hPo := hR.at hS
  refine lv_iload_n hx hb dX0_gather_11 rfl (lv_at hl 2 rfl) ?_
  have hPc := va_P.sub (ws' := []) hP [] rfl
  refine cl_P (W.runS (As := [.int a]) (rest := []) ⟨hx, hb, hml, hown, hts⟩ (c_Rows_in l D cs a) ⟨callB_of 1 hts (gd_C qq_2_230) rfl rfl rfl (hT _ qq_1_16) (hT _ qq_4_69) (by decide +kernel) (rm_R rfl rfl), (hT _ qq_2_229)⟩ (pq_S hPc hK hN) rfl rfl hl.1 rfl (lv_room (Nat.le_of_ble_eq_true rfl)) dX0_gather_12 ⟨Nat.le_of_ble_eq_true rfl, Nat.le_of_ble_eq_true rfl⟩) (fun v9 hz_11 => ?_)
  obtain ⟨x_10, rfl, r_12⟩ := hz_11
  refine lv_istore_n (lv' := [(3, .int x_10), (0, .ref ha), (1, .ref hl0), (2, .int a)]) hx hb dX0_gather_15 rfl hl (by decide) rfl (fun ls hl => ?_)
  refine lv_iconst (v := 0) hx hb dX0_gather_16 (by decide) ?_
  refine lv_istore (lv' := [(4, .int 0), (3, .int x_10), (0, .ref ha), (1, .ref hl0), (2, .int a)]) hx hb dX0_gather_17 hl (by decide) rfl (fun ls hl => ?_)
  refine w_wh (σ := (Int32) × (Int32) × (Nat → Int32) × (Nat → Int32)) (fun x9 H locs ls => match x9 with | (v_126, v_127, g_128, g_129) => Rg 0 8 v_126 ∧ Rg 0 72 v_127 ∧ va_P D vwCl [(ha, .inr (0, [.ref as, .ref ad, .int v_127])), (as, .inl ((cs 0), 8, .inl g_128)), (ad, .inl ((cs 0), 72, .inl g_129))] H ∧ va_D A [(ha, .inr (0, [.ref as, .ref ad, .int v_127])), (as, .inl ((cs 0), 8, .inl g_128)), (ad, .inl ((cs 0), 72, .inl g_129))] ∧ va_S A s.heap H locs ∧ lv_has ls 6 [(4, .int v_126), (3, .int x_10), (0, .ref ha), (1, .ref hl0), (2, .int a)]) (fun x9 => match x9 with | (v_126, v_127, g_128, g_129) => (8 - Int32.toInt v_126).toNat) 19 ?_ (0, 0, g_7, g_8) H locs ls ⟨(Rg.wk (lo2 := 0) (hi2 := 8) (Rg.c (c := 0) (k := 0) rfl) (by decide)), (Rg.wk (lo2 := 0) (hi2 := 72) (Rg.c (c := 0) (k := 0) rfl) (by decide)), hP, hD, hS, lv_sub hl [0, 1, 2, 3, 4] rfl⟩
  rintro ⟨v_126, v_127, g_128, g_129⟩ H locs ls ⟨r_11960, r_11961, hP, hD, hS, hl⟩ ih_11959
  have hPo := hR.at hS
  refine lv_iload hx hb dX0_gather_19 (lv_at hl 0 rfl) ?_
  refine lv_aload_n hx hb dX0_gather_21 rfl (lv_at hl 3 rfl) ?_
  refine va_getN (D := D) (ci := 2) (v := .int lb) (C := "WrongHole$Lift") (T := TX2) (N := 19) hx hb hts (iq_RX2 _) hown hK hPo 0 rfl rfl 0 (by decide) (NN.f hN nq_2_30) (fun _ h9 => h9) rfl dX0_gather_22 ?_
  refine lv_icmp_ge (tgt := 72) hx hb dX0_gather_25 (by decide) (fun c_11962 => ?_) (fun c_11962 => ?_)
  · refine lv_iconst (v := 0) hx hb dX0_gather_72 (by decide) ?_
    refine lv_istore (lv' := [(4, .int 0), (3, .int x_10), (0, .ref ha), (1, .ref hl0), (2, .int a)]) hx hb dX0_gather_73 hl (by decide) rfl (fun ls hl => ?_)
    refine w_wh (σ := (Int32) × (Int32) × (Nat → Int32) × (Nat → Int32)) (fun x9 H locs ls => match x9 with | (v_12161, v_12162, g_12163, g_12164) => Rg 0 8 v_12161 ∧ Rg 0 72 v_12162 ∧ va_P D vwCl [(ha, .inr (0, [.ref as, .ref ad, .int v_12162])), (as, .inl ((cs 0), 8, .inl g_12163)), (ad, .inl ((cs 0), 72, .inl g_12164))] H ∧ va_D A [(ha, .inr (0, [.ref as, .ref ad, .int v_12162])), (as, .inl ((cs 0), 8, .inl g_12163)), (ad, .inl ((cs 0), 72, .inl g_12164))] ∧ va_S A s.heap H locs ∧ lv_has ls 6 [(4, .int v_12161), (3, .int x_10), (0, .ref ha), (1, .ref hl0), (2, .int a)]) (fun x9 => match x9 with | (v_12161, v_12162, g_12163, g_12164) => (8 - Int32.toInt v_12161).toNat) 75 ?_ (0, v_127, g_128, g_129) H locs ls ⟨(Rg.wk (lo2 := 0) (hi2 := 8) (Rg.c (c := 0) (k := 0) rfl) (by decide)), r_11961, hP, hD, hS, lv_sub hl [0, 1, 2, 3, 4] rfl⟩
    rintro ⟨v_12161, v_12162, g_12163, g_12164⟩ H locs ls ⟨r_13358, r_13359, hP, hD, hS, hl⟩ ih_13357
    have hPo := hR.at hS
    refine lv_iload hx hb dX0_gather_75 (lv_at hl 0 rfl) ?_
    refine lv_aload_n hx hb dX0_gather_77 rfl (lv_at hl 3 rfl) ?_
    refine va_getN (D := D) (ci := 2) (v := .int lb) (C := "WrongHole$Lift") (T := TX2) (N := 19) hx hb hts (iq_RX2 _) hown hK hPo 0 rfl rfl 0 (by decide) (NN.f hN nq_2_30) (fun _ h9 => h9) rfl dX0_gather_78 ?_
    refine lv_icmp_ge (tgt := 148) hx hb dX0_gather_81 (by decide) (fun c_13360 => ?_) (fun c_13360 => ?_)
    · refine W.widen (k := 0) (n := 0) (Nat.le_of_ble_eq_true rfl) (Nat.le_of_ble_eq_true rfl) ?_
      have hP9 := hP.sub (ws' := [(ha, .inr (0, [.ref as, .ref ad, .int v_12162])), (as, .inl ((cs 0), 8, .inl g_12163)), (ad, .inl ((cs 0), 72, .inl g_12164))]) [0, 1, 2] rfl
      have hD9 := hD.sub (ws' := [(ha, .inr (0, [.ref as, .ref ad, .int v_12162])), (as, .inl ((cs 0), 8, .inl g_12163)), (ad, .inl ((cs 0), 72, .inl g_12164))]) [0, 1, 2] (by decide) rfl
      exact W.vret hx hb hr (fun t9 ht9 hW9 => ⟨⟨(), rfl, trivial, ⟨v_12162, g_12163, g_12164, r_13359, by rw [ht9]; exact hP9, hD9⟩⟩, hS.F ht9⟩) hS.2.2 dX0_gather_148
    · have r_13361 : Rg 0 7 v_12161 := Rg.lt_l (nle_lt c_13360) r_13358 r_lb (by decide)
      have r_13362 : Rg 1 8 lb := Rg.lt_r (nle_lt c_13360) r_13358 r_lb (by decide)
      refine lv_iload_n hx hb dX0_gather_84 rfl (lv_at hl 1 rfl) ?_
      refine lv_iload hx hb dX0_gather_85 (lv_at hl 0 rfl) ?_
      refine lv_ishr hx hb dX0_gather_87 ?_
      refine lv_topi (fun x_13436 e_13437 => ?_)
      have r_13438 : Rg 0 255 x_13436 := Rg.shrn e_13437 r_12
      refine lv_iconst (v := 1) hx hb dX0_gather_88 (by decide) ?_
      refine lv_iand hx hb dX0_gather_89 ?_
      refine lv_topi (fun x_13439 e_13440 => ?_)
      have r_13441 : Rg 0 1 x_13439 := Rg.and e_13440 (Rg.c (c := 1) (k := 1) rfl) (by decide)
      refine w_cut (σ := (Int32)) (fun (v_13449 : Int32) H locs ls => Rg 0 1 v_13449 ∧ va_P D vwCl [(ha, .inr (0, [.ref as, .ref ad, .int v_12162])), (as, .inl ((cs 0), 8, .inl g_12163)), (ad, .inl ((cs 0), 72, .inl g_12164))] H ∧ va_D A [(ha, .inr (0, [.ref as, .ref ad, .int v_12162])), (as, .inl ((cs 0), 8, .inl g_12163)), (ad, .inl ((cs 0), 72, .inl g_12164))] ∧ va_S A s.heap H locs ∧ lv_has ls 6 [(4, .int v_12161), (3, .int x_10), (0, .ref ha), (1, .ref hl0), (2, .int a)]) 108 (fun (v_13449 : Int32) => [.int v_13449]) ?_ (fun hj_13450 => ?_)
      · rintro v_13449 H locs ls ⟨r_13451, hP, hD, hS, hl⟩
        have hPo := hR.at hS
        refine lv_istore (lv' := [(5, .int v_13449), (4, .int v_12161), (3, .int x_10), (0, .ref ha), (1, .ref hl0), (2, .int a)]) hx hb dX0_gather_108 hl (by decide) rfl (fun ls hl => ?_)
        refine lv_iload hx hb dX0_gather_110 (lv_at hl 0 rfl) ?_
        refine w_cut (σ := (Int32) × (Nat → Int32) × (Nat → Int32)) (fun x9 H locs ls => match x9 with | (v_13478, g_13479, g_13480) => Rg 0 72 v_13478 ∧ va_P D vwCl [(ha, .inr (0, [.ref as, .ref ad, .int v_13478])), (as, .inl ((cs 0), 8, .inl g_13479)), (ad, .inl ((cs 0), 72, .inl g_13480))] H ∧ va_D A [(ha, .inr (0, [.ref as, .ref ad, .int v_13478])), (as, .inl ((cs 0), 8, .inl g_13479)), (ad, .inl ((cs 0), 72, .inl g_13480))] ∧ va_S A s.heap H locs ∧ lv_has ls 6 [(5, .int v_13449), (4, .int v_12161), (3, .int x_10), (0, .ref ha), (1, .ref hl0), (2, .int a)]) 142 (fun x9 => match x9 with | (v_13478, g_13479, g_13480) => []) ?_ (fun hj_13481 => ?_)
        · rintro ⟨v_13478, g_13479, g_13480⟩ H locs ls ⟨r_13482, hP, hD, hS, hl⟩
          have hPo := hR.at hS
          obtain ⟨x_13483, e_13484⟩ : ∃ z : Int32, z = v_12161 + Int32.ofInt 1 := ⟨_, rfl⟩
          have r_13485 : Rg 1 8 x_13483 := Rg.add e_13484 r_13361 (Rg.c (c := Int32.ofInt 1) (k := 1) rfl) (by decide)
          refine lv_iinc (v := x_13483) (lv' := [(4, .int x_13483), (5, .int v_13449), (3, .int x_10), (0, .ref ha), (1, .ref hl0), (2, .int a)]) hx hb dX0_gather_142 hl (k := 1) rfl (e_13484.symm) (by decide) rfl (fun ls hl => ?_)
          refine lv_goto (tgt := 75) hx hb dX0_gather_145 (by decide) ?_
          exact ih_13357 (x_13483, v_13478, g_13479, g_13480) _ _ _ ⟨(Rg.wk (lo2 := 0) (hi2 := 8) r_13485 (by decide)), r_13482, hP, hD, hS, lv_sub hl [0, 2, 3, 4, 5] rfl⟩ (ms_up e_13484 r_13361 (Rg.c (c := Int32.ofInt 1) (k := 1) rfl) (by decide))
        · refine lv_if_eq (tgt := 142) hx hb dX0_gather_112 (by decide) (fun c_13452 => ?_) (fun c_13452 => ?_)
          · have r_13453 : Rg 0 0 v_13449 := Rg.eq_l c_13452 r_13451 (Rg.c (c := 0) (k := 0) rfl) (by decide)
            exact hj_13481 (v_12162, g_12163, g_12164) _ _ _ ⟨r_13359, hP, hD, hS, lv_sub hl [0, 1, 2, 3, 4, 5] rfl⟩
          · have r_13454 : Rg 1 1 v_13449 := Rg.ne c_13452 r_13451 (Rg.c (c := 0) (k := 0) rfl) (by decide)
            refine lv_aload_n hx hb dX0_gather_115 rfl (lv_at hl 4 rfl) ?_
            refine lv_iload_n hx hb dX0_gather_116 rfl (lv_at hl 2 rfl) ?_
            refine lv_iconst (v := 1) hx hb dX0_gather_117 (by decide) ?_
            refine lv_iload hx hb dX0_gather_118 (lv_at hl 1 rfl) ?_
            refine lv_ishl hx hb dX0_gather_120 ?_
            refine lv_topi (fun x_13486 e_13487 => ?_)
            have r_13488 : Rg 0 128 x_13486 := Rg.shl (ha := 1) (k := 7) e_13487 (Rg.wk (Rg.c (c := 1) (k := 1) rfl) (by decide)) (Rg.wk r_13361 (by decide)) (by decide) (by decide)
            refine lv_ior hx hb dX0_gather_121 ?_
            refine lv_topi (fun x_13489 e_13490 => ?_)
            have r_13491 : Rg 0 255 x_13489 := Rg.or (k := 8) e_13490 r_12 r_13488 (by decide) (by decide)
            have hPc := va_P.sub (ws' := [(hl0, .inr (2, [.int lb, .int lh, .int lg, .int lw, .int lv, .int lbs, .int lti, .int lts, .int le, .int lk, .int la, .ref l0, .ref l1, .ref l2, .ref l3, .ref l4, .ref l5, .ref l6, .ref l7]))]) hPo [0] rfl
            refine cl_P (W.runV (As := [.int x_13489]) (rest := []) ⟨hx, hb, hml, hown, hts⟩ (c_Lift_lawful l D cs hl0 lb lh lg lw lv lbs lti lts le lk la l0 l1 l2 l3 l4 l5 l6 l7 x_13489 (Rg.wk (lo2 := 0) (hi2 := 8) r_13362 (by decide)) r_lh r_le) ⟨callB_of 1 hts (gd_C qq_3_215) rfl rfl rfl (hT _ qq_1_11) (hT _ qq_4_71) (by decide +kernel) (rm_R rfl rfl), (hT _ qq_3_213), (hT _ qq_3_214)⟩ (pq_V hPc hK hN (ci := 2) (q0 := 0) rfl rfl) rfl rfl hl.1 rfl (lv_room (Nat.le_of_ble_eq_true rfl)) dX0_gather_122 ⟨Nat.le_of_ble_eq_true rfl, Nat.le_of_ble_eq_true rfl⟩) (fun v9 hz_13493 => ?_)
            obtain ⟨x_13492, rfl, r_13494⟩ := hz_13493
            refine lv_if_eq (tgt := 142) hx hb dX0_gather_125 (by decide) (fun c_13495 => ?_) (fun c_13495 => ?_)
            · have r_13496 : Rg 0 0 x_13492 := Rg.eq_l c_13495 r_13494 (Rg.c (c := 0) (k := 0) rfl) (by decide)
              exact hj_13481 (v_12162, g_12163, g_12164) _ _ _ ⟨r_13359, hP, hD, hS, lv_sub hl [0, 1, 2, 3, 4, 5] rfl⟩
            · have r_13497 : Rg 1 1 x_13492 := Rg.ne c_13495 r_13494 (Rg.c (c := 0) (k := 0) rfl) (by decide)
              refine lv_aload_n hx hb dX0_gather_128 rfl (lv_at hl 3 rfl) ?_
              refine lv_iconst (v := 1) hx hb dX0_gather_129 (by decide) ?_
              refine lv_iload hx hb dX0_gather_130 (lv_at hl 1 rfl) ?_
              refine lv_aload_n hx hb dX0_gather_132 rfl (lv_at hl 3 rfl) ?_
              refine va_get (D := D) (ci := 0) (v := .ref as) (C := "WrongHole$Acts") (T := TX0) (N := 3) hx hb hts (iq_RX0 _) hown hK hP 0 rfl rfl 0 (by decide) (hT _ qq_1_162) (fun _ h9 => h9) rfl dX0_gather_133 ?_
              refine lv_iload hx hb dX0_gather_136 (lv_at hl 1 rfl) ?_
              have hi_13498 : vp_in v_12161 8 := Rg.in r_13361 (by decide)
              refine va_iald hx hb hK hP 1 0 rfl rfl hi_13498 dX0_gather_138 ?_
              refine lv_topi (fun x_13499 e_13500 => ?_)
              have hPc := hP.sub (ws' := [(ha, .inr (0, [.ref as, .ref ad, .int v_12162])), (as, .inl ((cs 0), 8, .inl g_12163)), (ad, .inl ((cs 0), 72, .inl g_12164))]) [0, 1, 2] rfl
              have hDc := hD.sub (ws' := [(ha, .inr (0, [.ref as, .ref ad, .int v_12162])), (as, .inl ((cs 0), 8, .inl g_12163)), (ad, .inl ((cs 0), 72, .inl g_12164))]) [0, 1, 2] (by decide) rfl
              have hFc := va_free (wc := [(ha, .inr (0, [.ref as, .ref ad, .int v_12162])), (as, .inl ((cs 0), 8, .inl g_12163)), (ad, .inl ((cs 0), 72, .inl g_12164))]) hD hS hA [0, 1, 2] rfl
              refine va_callv (va_runV (As := [.int 1, .int v_12161, .int x_13499]) (rest := []) ⟨hx, hb, hml, hown, hts⟩ (c_Acts_add l D cs X H.size ha as ad v_12162 g_12163 g_12164 1 v_12161 x_13499 r_13359) ⟨callB_of 3 hts (gd_C qq_4_75) rfl rfl rfl (hT _ qq_1_7) (hT _ qq_4_72) (by decide +kernel) (rm_R rfl rfl), (hT _ qq_4_74), (hT _ qs_0_13)⟩ (pr_V hPc hK hDc hN (hR.sub (wo' := []) [] rfl) hS hFc hX hXs (ci := 0) (q0 := 0) rfl rfl) rfl rfl hl.1 rfl (lv_room (Nat.le_of_ble_eq_true rfl)) dX0_gather_139 ⟨Nat.le_of_ble_eq_true rfl, Nat.le_of_ble_eq_true rfl⟩) hS (fun q _ h => hFc q h) hFc (fun u_13501 t_13504 H1 locs ht9 hvm hw_13502 hB_13503 hz1 hk1 hS => ?_)
              obtain ⟨v_13506, g_13507, g_13508, r_13509, hP1, hD1⟩ := hB_13503
              rw [ht9] at hP1
              obtain ⟨hP, hD⟩ := va_join (wr := []) (w1 := [(ha, .inr (0, [.ref as, .ref ad, .int v_13506])), (as, .inl ((cs 0), 8, .inl g_13507)), (ad, .inl ((cs 0), 72, .inl g_13508))]) hP hD [0, 1, 2] [] rfl rfl (by decide) (by decide) hk1 hFc hP1 hD1
              generalize H1 = H at hP hS ⊢
              have hP : va_P D vwCl [(ha, .inr (0, [.ref as, .ref ad, .int v_13506])), (as, .inl ((cs 0), 8, .inl g_13507)), (ad, .inl ((cs 0), 72, .inl g_13508))] H := hP
              have hD : va_D A [(ha, .inr (0, [.ref as, .ref ad, .int v_13506])), (as, .inl ((cs 0), 8, .inl g_13507)), (ad, .inl ((cs 0), 72, .inl g_13508))] := hD
              have hPo := hR.at hS
              exact hj_13481 (v_13506, g_13507, g_13508) _ _ _ ⟨r_13509, hP, hD, hS, lv_sub hl [0, 1, 2, 3, 4, 5] rfl⟩
      · refine lv_if_ne (tgt := 107) hx hb dX0_gather_90 (by decide) (fun c_13442 => ?_) (fun c_13442 => ?_)
        · have r_13443 : Rg 1 1 x_13439 := Rg.ne c_13442 r_13441 (Rg.c (c := 0) (k := 0) rfl) (by decide)
          refine lv_iconst (v := 0) hx hb dX0_gather_107 (by decide) ?_
          exact hj_13450 0 _ _ _ ⟨(Rg.wk (lo2 := 0) (hi2 := 1) (Rg.c (c := 0) (k := 0) rfl) (by decide)), hP, hD, hS, lv_sub hl [0, 1, 2, 3, 4] rfl⟩
        · have r_13444 : Rg 0 0 x_13439 := Rg.eq_l c_13442 r_13441 (Rg.c (c := 0) (k := 0) rfl) (by decide)
          refine lv_aload_n hx hb dX0_gather_93 rfl (lv_at hl 2 rfl) ?_
          refine va_get (D := D) (ci := 0) (v := .ref as) (C := "WrongHole$Acts") (T := TX0) (N := 3) hx hb hts (iq_RX0 _) hown hK hP 0 rfl rfl 0 (by decide) (hT _ qq_1_162) (fun _ h9 => h9) rfl dX0_gather_94 ?_
          refine lv_iload hx hb dX0_gather_97 (lv_at hl 0 rfl) ?_
          have hi_13510 : vp_in v_12161 8 := Rg.in r_13361 (by decide)
          refine va_iald hx hb hK hP 1 0 rfl rfl hi_13510 dX0_gather_99 ?_
          refine lv_topi (fun x_13511 e_13512 => ?_)
          refine lv_if_eq (tgt := 107) hx hb dX0_gather_100 (by decide) (fun c_13513 => ?_) (fun c_13513 => ?_)
          · have r_13514 : Rg 0 0 x_13511 := Rg.eq_l c_13513 (Rg.top x_13511) (Rg.c (c := 0) (k := 0) rfl) (by decide)
            refine lv_iconst (v := 0) hx hb dX0_gather_107 (by decide) ?_
            exact hj_13450 0 _ _ _ ⟨(Rg.wk (lo2 := 0) (hi2 := 1) (Rg.c (c := 0) (k := 0) rfl) (by decide)), hP, hD, hS, lv_sub hl [0, 1, 2, 3, 4] rfl⟩
          · refine lv_iconst (v := 1) hx hb dX0_gather_103 (by decide) ?_
            refine lv_goto (tgt := 108) hx hb dX0_gather_104 (by decide) ?_
            exact hj_13450 1 _ _ _ ⟨(Rg.wk (lo2 := 0) (hi2 := 1) (Rg.c (c := 1) (k := 1) rfl) (by decide)), hP, hD, hS, lv_sub hl [0, 1, 2, 3, 4] rfl⟩
  · have r_11963 : Rg 0 7 v_126 := Rg.lt_l (nle_lt c_11962) r_11960 r_lb (by decide)
    have r_11964 : Rg 1 8 lb := Rg.lt_r (nle_lt c_11962) r_11960 r_lb (by decide)
    refine lv_iload_n hx hb dX0_gather_28 rfl (lv_at hl 1 rfl) ?_
    refine lv_iload hx hb dX0_gather_29 (lv_at hl 0 rfl) ?_
    refine lv_ishr hx hb dX0_gather_31 ?_
    refine lv_topi (fun x_13515 e_13516 => ?_)
    have r_13517 : Rg 0 255 x_13515 := Rg.shrn e_13516 r_12
    refine lv_iconst (v := 1) hx hb dX0_gather_32 (by decide) ?_
    refine lv_iand hx hb dX0_gather_33 ?_
    refine lv_topi (fun x_13518 e_13519 => ?_)
    have r_13520 : Rg 0 1 x_13518 := Rg.and e_13519 (Rg.c (c := 1) (k := 1) rfl) (by decide)
    refine w_cut (σ := (Int32) × (Nat → Int32) × (Nat → Int32)) (fun x9 H locs ls => match x9 with | (v_13549, g_13550, g_13551) => Rg 0 72 v_13549 ∧ va_P D vwCl [(ha, .inr (0, [.ref as, .ref ad, .int v_13549])), (as, .inl ((cs 0), 8, .inl g_13550)), (ad, .inl ((cs 0), 72, .inl g_13551))] H ∧ va_D A [(ha, .inr (0, [.ref as, .ref ad, .int v_13549])), (as, .inl ((cs 0), 8, .inl g_13550)), (ad, .inl ((cs 0), 72, .inl g_13551))] ∧ va_S A s.heap H locs ∧ lv_has ls 6 [(4, .int v_126), (3, .int x_10), (0, .ref ha), (1, .ref hl0), (2, .int a)]) 66 (fun x9 => match x9 with | (v_13549, g_13550, g_13551) => []) ?_ (fun hj_13552 => ?_)
    · rintro ⟨v_13549, g_13550, g_13551⟩ H locs ls ⟨r_13553, hP, hD, hS, hl⟩
      have hPo := hR.at hS
      obtain ⟨x_13554, e_13555⟩ : ∃ z : Int32, z = v_126 + Int32.ofInt 1 := ⟨_, rfl⟩
      have r_13556 : Rg 1 8 x_13554 := Rg.add e_13555 r_11963 (Rg.c (c := Int32.ofInt 1) (k := 1) rfl) (by decide)
      refine lv_iinc (v := x_13554) (lv' := [(4, .int x_13554), (3, .int x_10), (0, .ref ha), (1, .ref hl0), (2, .int a)]) hx hb dX0_gather_66 hl (k := 0) rfl (e_13555.symm) (by decide) rfl (fun ls hl => ?_)
      refine lv_goto (tgt := 19) hx hb dX0_gather_69 (by decide) ?_
      exact ih_11959 (x_13554, v_13549, g_13550, g_13551) _ _ _ ⟨(Rg.wk (lo2 := 0) (hi2 := 8) r_13556 (by decide)), r_13553, hP, hD, hS, lv_sub hl [0, 1, 2, 3, 4] rfl⟩ (ms_up e_13555 r_11963 (Rg.c (c := Int32.ofInt 1) (k := 1) rfl) (by decide))
    · refine lv_if_eq (tgt := 66) hx hb dX0_gather_34 (by decide) (fun c_13521 => ?_) (fun c_13521 => ?_)
      · have r_13522 : Rg 0 0 x_13518 := Rg.eq_l c_13521 r_13520 (Rg.c (c := 0) (k := 0) rfl) (by decide)
        exact hj_13552 (v_127, g_128, g_129) _ _ _ ⟨r_11961, hP, hD, hS, lv_sub hl [0, 1, 2, 3, 4] rfl⟩
      · have r_13523 : Rg 1 1 x_13518 := Rg.ne c_13521 r_13520 (Rg.c (c := 0) (k := 0) rfl) (by decide)
        refine lv_aload_n hx hb dX0_gather_37 rfl (lv_at hl 3 rfl) ?_
        refine lv_iload_n hx hb dX0_gather_38 rfl (lv_at hl 1 rfl) ?_
        refine lv_iconst (v := 1) hx hb dX0_gather_39 (by decide) ?_
        refine lv_iload hx hb dX0_gather_40 (lv_at hl 0 rfl) ?_
        refine lv_ishl hx hb dX0_gather_42 ?_
        refine lv_topi (fun x_13557 e_13558 => ?_)
        have r_13559 : Rg 0 128 x_13557 := Rg.shl (ha := 1) (k := 7) e_13558 (Rg.wk (Rg.c (c := 1) (k := 1) rfl) (by decide)) (Rg.wk r_11963 (by decide)) (by decide) (by decide)
        refine lv_iconst (v := (-1)) hx hb dX0_gather_43 (by decide) ?_
        refine lv_ixor hx hb dX0_gather_44 ?_
        refine lv_topi (fun x_13560 e_13561 => ?_)
        refine lv_iand hx hb dX0_gather_45 ?_
        refine lv_topi (fun x_13562 e_13563 => ?_)
        have r_13564 : Rg 0 255 x_13562 := Rg.andl e_13563 r_12 (by decide)
        have hPc := va_P.sub (ws' := [(hl0, .inr (2, [.int lb, .int lh, .int lg, .int lw, .int lv, .int lbs, .int lti, .int lts, .int le, .int lk, .int la, .ref l0, .ref l1, .ref l2, .ref l3, .ref l4, .ref l5, .ref l6, .ref l7]))]) hPo [0] rfl
        refine cl_P (W.runV (As := [.int x_13562]) (rest := []) ⟨hx, hb, hml, hown, hts⟩ (c_Lift_lawful l D cs hl0 lb lh lg lw lv lbs lti lts le lk la l0 l1 l2 l3 l4 l5 l6 l7 x_13562 (Rg.wk (lo2 := 0) (hi2 := 8) r_11964 (by decide)) r_lh r_le) ⟨callB_of 1 hts (gd_C qq_3_215) rfl rfl rfl (hT _ qq_1_11) (hT _ qq_4_71) (by decide +kernel) (rm_R rfl rfl), (hT _ qq_3_213), (hT _ qq_3_214)⟩ (pq_V hPc hK hN (ci := 2) (q0 := 0) rfl rfl) rfl rfl hl.1 rfl (lv_room (Nat.le_of_ble_eq_true rfl)) dX0_gather_46 ⟨Nat.le_of_ble_eq_true rfl, Nat.le_of_ble_eq_true rfl⟩) (fun v9 hz_13566 => ?_)
        obtain ⟨x_13565, rfl, r_13567⟩ := hz_13566
        refine lv_if_eq (tgt := 66) hx hb dX0_gather_49 (by decide) (fun c_13568 => ?_) (fun c_13568 => ?_)
        · have r_13569 : Rg 0 0 x_13565 := Rg.eq_l c_13568 r_13567 (Rg.c (c := 0) (k := 0) rfl) (by decide)
          exact hj_13552 (v_127, g_128, g_129) _ _ _ ⟨r_11961, hP, hD, hS, lv_sub hl [0, 1, 2, 3, 4] rfl⟩
        · have r_13570 : Rg 1 1 x_13565 := Rg.ne c_13568 r_13567 (Rg.c (c := 0) (k := 0) rfl) (by decide)
          refine lv_aload_n hx hb dX0_gather_52 rfl (lv_at hl 2 rfl) ?_
          refine lv_iconst (v := 0) hx hb dX0_gather_53 (by decide) ?_
          refine lv_iload hx hb dX0_gather_54 (lv_at hl 0 rfl) ?_
          refine lv_aload_n hx hb dX0_gather_56 rfl (lv_at hl 2 rfl) ?_
          refine va_get (D := D) (ci := 0) (v := .ref as) (C := "WrongHole$Acts") (T := TX0) (N := 3) hx hb hts (iq_RX0 _) hown hK hP 0 rfl rfl 0 (by decide) (hT _ qq_1_162) (fun _ h9 => h9) rfl dX0_gather_57 ?_
          refine lv_iload hx hb dX0_gather_60 (lv_at hl 0 rfl) ?_
          have hi_13571 : vp_in v_126 8 := Rg.in r_11963 (by decide)
          refine va_iald hx hb hK hP 1 0 rfl rfl hi_13571 dX0_gather_62 ?_
          refine lv_topi (fun x_13572 e_13573 => ?_)
          have hPc := hP.sub (ws' := [(ha, .inr (0, [.ref as, .ref ad, .int v_127])), (as, .inl ((cs 0), 8, .inl g_128)), (ad, .inl ((cs 0), 72, .inl g_129))]) [0, 1, 2] rfl
          have hDc := hD.sub (ws' := [(ha, .inr (0, [.ref as, .ref ad, .int v_127])), (as, .inl ((cs 0), 8, .inl g_128)), (ad, .inl ((cs 0), 72, .inl g_129))]) [0, 1, 2] (by decide) rfl
          have hFc := va_free (wc := [(ha, .inr (0, [.ref as, .ref ad, .int v_127])), (as, .inl ((cs 0), 8, .inl g_128)), (ad, .inl ((cs 0), 72, .inl g_129))]) hD hS hA [0, 1, 2] rfl
          refine va_callv (va_runV (As := [.int 0, .int v_126, .int x_13572]) (rest := []) ⟨hx, hb, hml, hown, hts⟩ (c_Acts_add l D cs X H.size ha as ad v_127 g_128 g_129 0 v_126 x_13572 r_11961) ⟨callB_of 3 hts (gd_C qq_4_75) rfl rfl rfl (hT _ qq_1_7) (hT _ qq_4_72) (by decide +kernel) (rm_R rfl rfl), (hT _ qq_4_74), (hT _ qs_0_13)⟩ (pr_V hPc hK hDc hN (hR.sub (wo' := []) [] rfl) hS hFc hX hXs (ci := 0) (q0 := 0) rfl rfl) rfl rfl hl.1 rfl (lv_room (Nat.le_of_ble_eq_true rfl)) dX0_gather_63 ⟨Nat.le_of_ble_eq_true rfl, Nat.le_of_ble_eq_true rfl⟩) hS (fun q _ h => hFc q h) hFc (fun u_13574 t_13577 H1 locs ht9 hvm hw_13575 hB_13576 hz1 hk1 hS => ?_)
          obtain ⟨v_13579, g_13580, g_13581, r_13582, hP1, hD1⟩ := hB_13576
          rw [ht9] at hP1
          obtain ⟨hP, hD⟩ := va_join (wr := []) (w1 := [(ha, .inr (0, [.ref as, .ref ad, .int v_13579])), (as, .inl ((cs 0), 8, .inl g_13580)), (ad, .inl ((cs 0), 72, .inl g_13581))]) hP hD [0, 1, 2] [] rfl rfl (by decide) (by decide) hk1 hFc hP1 hD1
          generalize H1 = H at hP hS ⊢
          have hP : va_P D vwCl [(ha, .inr (0, [.ref as, .ref ad, .int v_13579])), (as, .inl ((cs 0), 8, .inl g_13580)), (ad, .inl ((cs 0), 72, .inl g_13581))] H := hP
          have hD : va_D A [(ha, .inr (0, [.ref as, .ref ad, .int v_13579])), (as, .inl ((cs 0), 8, .inl g_13580)), (ad, .inl ((cs 0), 72, .inl g_13581))] := hD
          have hPo := hR.at hS
          exact hj_13552 (v_13579, g_13580, g_13581) _ _ _ ⟨r_13582, hP, hD, hS, lv_sub hl [0, 1, 2, 3, 4] rfl⟩
