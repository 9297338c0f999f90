theorem dX5_placeOf_0 : decode cX5_placeOf 0 = .ok (.aload_n 0, 1) := by decide +kernel
theorem dX5_placeOf_1 : decode cX5_placeOf 1 = .ok (.getfield 9, 3) := by decide +kernel
theorem qq_4_137 : Cond.fieldLink "WrongHole$Paths" 9 "WrongHole$Paths" "offsets" "[I" ∈ TB := mk_tb (ti_4 (List.mem_of_getElem? (i := 137) rfl)) rfl
theorem iq_RX5 (cd : Cond) : ∀ w ∈ u_ws RX5 TX5 19, w ∈ cd :: TB := by
  intro w hw
  obtain ⟨k, hk, rfl⟩ := List.mem_map.mp hw
  have hk := List.mem_range.mp hk
  refine List.mem_cons_of_mem _ ?_
  match k, hk with
  | 0, _ => exact mk_tb (ti_4 (List.mem_of_getElem? (i := 158) rfl)) rfl
  | 1, _ => exact mk_tb (ti_4 (List.mem_of_getElem? (i := 160) rfl)) rfl
  | 2, _ => exact mk_tb (ti_4 (List.mem_of_getElem? (i := 162) rfl)) rfl
  | 3, _ => exact mk_tb (ti_4 (List.mem_of_getElem? (i := 164) rfl)) rfl
  | 4, _ => exact mk_tb (ti_4 (List.mem_of_getElem? (i := 166) rfl)) rfl
  | 5, _ => exact mk_tb (ti_4 (List.mem_of_getElem? (i := 168) rfl)) rfl
  | 6, _ => exact mk_tb (ti_4 (List.mem_of_getElem? (i := 170) rfl)) rfl
  | 7, _ => exact mk_tb (ti_4 (List.mem_of_getElem? (i := 172) rfl)) rfl
  | 8, _ => exact mk_tb (ti_4 (List.mem_of_getElem? (i := 174) rfl)) rfl
  | 9, _ => exact mk_tb (ti_4 (List.mem_of_getElem? (i := 176) rfl)) rfl
  | 10, _ => exact mk_tb (ti_4 (List.mem_of_getElem? (i := 178) rfl)) rfl
  | 11, _ => exact mk_tb (ti_4 (List.mem_of_getElem? (i := 180) rfl)) rfl
  | 12, _ => exact mk_tb (ti_4 (List.mem_of_getElem? (i := 182) rfl)) rfl
  | 13, _ => exact mk_tb (ti_4 (List.mem_of_getElem? (i := 184) rfl)) rfl
  | 14, _ => exact mk_tb (ti_4 (List.mem_of_getElem? (i := 186) rfl)) rfl
  | 15, _ => exact mk_tb (ti_4 (List.mem_of_getElem? (i := 188) rfl)) rfl
  | 16, _ => exact mk_tb (ti_4 (List.mem_of_getElem? (i := 190) rfl)) rfl
  | 17, _ => exact mk_tb (ti_4 (List.mem_of_getElem? (i := 192) rfl)) rfl
  | 18, _ => exact mk_tb (ti_4 (List.mem_of_getElem? (i := 194) rfl)) rfl
  | n + 19, h => exact absurd h (by omega)
theorem dX5_placeOf_4 : decode cX5_placeOf 4 = .ok (.iload_n 1, 1) := by decide +kernel
theorem dX5_placeOf_5 : decode cX5_placeOf 5 = .ok (.bipush 8, 2) := by decide +kernel
theorem dX5_placeOf_7 : decode cX5_placeOf 7 = .ok (.ishr, 1) := by decide +kernel
theorem dX5_placeOf_8 : decode cX5_placeOf 8 = .ok (.sipush 255, 3) := by decide +kernel
theorem dX5_placeOf_11 : decode cX5_placeOf 11 = .ok (.iand, 1) := by decide +kernel
theorem dX5_placeOf_12 : decode cX5_placeOf 12 = .ok (.iaload, 1) := by decide +kernel
theorem dX5_placeOf_13 : decode cX5_placeOf 13 = .ok (.aload_n 0, 1) := by decide +kernel
theorem dX5_placeOf_14 : decode cX5_placeOf 14 = .ok (.getfield 15, 3) := by decide +kernel
theorem qq_4_138 : Cond.fieldLink "WrongHole$Paths" 15 "WrongHole$Paths" "ranks" "[I" ∈ TB := mk_tb (ti_4 (List.mem_of_getElem? (i := 138) rfl)) rfl
theorem dX5_placeOf_17 : decode cX5_placeOf 17 = .ok (.iload_n 1, 1) := by decide +kernel
theorem dX5_placeOf_18 : decode cX5_placeOf 18 = .ok (.sipush 255, 3) := by decide +kernel
theorem dX5_placeOf_21 : decode cX5_placeOf 21 = .ok (.iand, 1) := by decide +kernel
theorem dX5_placeOf_22 : decode cX5_placeOf 22 = .ok (.iaload, 1) := by decide +kernel
theorem dX5_placeOf_23 : decode cX5_placeOf 23 = .ok (.iadd, 1) := by decide +kernel
theorem dX5_placeOf_24 : decode cX5_placeOf 24 = .ok (.istore_n 2, 1) := by decide +kernel
theorem dX5_placeOf_25 : decode cX5_placeOf 25 = .ok (.iload_n 2, 1) := by decide +kernel
theorem dX5_placeOf_26 : decode cX5_placeOf 26 = .ok (.aload_n 0, 1) := by decide +kernel
theorem dX5_placeOf_27 : decode cX5_placeOf 27 = .ok (.getfield 116, 3) := by decide +kernel
theorem qq_4_145 : Cond.fieldLink "WrongHole$Paths" 116 "WrongHole$Paths" "size" "I" ∈ TB := mk_tb (ti_4 (List.mem_of_getElem? (i := 145) rfl)) rfl
theorem dX5_placeOf_30 : decode cX5_placeOf 30 = .ok (.if_icmp .ge 16, 3) := by decide +kernel
theorem dX5_placeOf_46 : decode cX5_placeOf 46 = .ok (.iconst (-1), 1) := by decide +kernel
theorem dX5_placeOf_47 : decode cX5_placeOf 47 = .ok (.ireturn, 1) := by decide +kernel
theorem dX5_placeOf_33 : decode cX5_placeOf 33 = .ok (.iload_n 2, 1) := by decide +kernel
theorem dX5_placeOf_34 : decode cX5_placeOf 34 = .ok (.aload_n 0, 1) := by decide +kernel
theorem dX5_placeOf_35 : decode cX5_placeOf 35 = .ok (.getfield 24, 3) := by decide +kernel
theorem qq_4_141 : Cond.fieldLink "WrongHole$Paths" 24 "WrongHole$Paths" "seconds" "[I" ∈ TB := mk_tb (ti_4 (List.mem_of_getElem? (i := 141) rfl)) rfl
theorem dX5_placeOf_38 : decode cX5_placeOf 38 = .ok (.arraylength, 1) := by decide +kernel
theorem dX5_placeOf_39 : decode cX5_placeOf 39 = .ok (.if_icmp .ge 7, 3) := by decide +kernel
theorem dX5_placeOf_42 : decode cX5_placeOf 42 = .ok (.iload_n 2, 1) := by decide +kernel
theorem dX5_placeOf_43 : decode cX5_placeOf 43 = .ok (.goto 4, 3) := by decide +kernel
set_option maxHeartbeats 4000000 in
set_option maxRecDepth 100000 in
theorem c_P_placeOf (l : Launch) (D : va_G) (cs : Nat → ClassId) (hh : Nat) (ha : Nat) (po : Nat) (pr_ : Nat) (pa : Nat) (pf : Nat) (p5 : Nat) (p6 : Nat) (p7 : Nat) (p8 : Nat) (zs : Int32) (zw : Int32) (zo : Int32) (zr : Int32) (zc : Int32) (zl : Int32) (zm : Int32) (zn : Int32) (zf : Int32) (hl0 : Nat) (L : Nat) (go : Nat → Int32) (gr : Nat → Int32) (g5 : Nat → Int32) (a : Int32) (hL : L ≤ 65536) (r_zs : Rg 0 65536 zs) (a_go : ∀ j, j < 256 → Rg 0 65536 (go j)) (a_gr : ∀ j, j < 256 → Rg 0 256 (gr j)) : Met l yX5_placeOf (Cond.code yX5_placeOf cX5_placeOf 3 (some .int) :: TB) (RM 0 0 0) (va_Pc [.ref hh, .int a] (PRR D cs [(hh, .inr (4, [.ref ha, .ref po, .ref pr_, .ref pa, .ref pf, .ref p5, .ref p6, .ref p7, .ref p8, .int zs, .int zw, .ref hl0, .int zo, .int zr, .int zc, .int zl, .int zm, .int zn, .int zf])), (po, .inl ((cs 0), 256, .inl go)), (pr_, .inl ((cs 0), 256, .inl gr)), (p5, .inl ((cs 0), L, .inl g5))])) (QP (fun v => ∃ x : Int32, v = .int x ∧ Rg (-1) ((L : Int) - 1) x)) 0 0 (fun _ => False) := by
  refine MER (y := yX5_placeOf) (cc := cX5_placeOf) (maxL := 3) (ret := (some .int)) (d := 0) (D := D) (cs := cs) (ws := [(hh, .inr (4, [.ref ha, .ref po, .ref pr_, .ref pa, .ref pf, .ref p5, .ref p6, .ref p7, .ref p8, .int zs, .int zw, .ref hl0, .int zo, .int zr, .int zc, .int zl, .int zm, .int zn, .int zf])), (po, .inl ((cs 0), 256, .inl go)), (pr_, .inl ((cs 0), 256, .inl gr)), (p5, .inl ((cs 0), L, .inl g5))]) (av := [.ref hh, .int a]) (Qc := QP (fun v => ∃ x : Int32, v = .int x ∧ Rg (-1) ((L : Int) - 1) x)) (by decide) (Nat.le_of_ble_eq_true rfl) ?_
  intro p e s m below meth c ls H hHe hx hb hr hml hown hts hlocks hP hK hN hl
  obtain ⟨locs, hlc⟩ : ∃ z : List Loc, z = [] := ⟨_, rfl⟩
  rw [← hlc]
  have hown : s.vm.findClass "WrongHole$Paths" = some m.cls := hown
  have hT : ∀ w ∈ TB, w.before ([.ref hh, .int a] : List Value).toArray s = true := fun w h => hts w (List.mem_cons_of_mem _ h)
  have hl : lv_has ls 3 [(0, .ref hh), (1, .int a)] := hl
  have hP : va_P D vwCl [(hh, .inr (4, [.ref ha, .ref po, .ref pr_, .ref pa, .ref pf, .ref p5, .ref p6, .ref p7, .ref p8, .int zs, .int zw, .ref hl0, .int zo, .int zr, .int zc, .int zl, .int zm, .int zn, .int zf])), (po, .inl ((cs 0), 256, .inl go)), (pr_, .inl ((cs 0), 256, .inl gr)), (p5, .inl ((cs 0), L, .inl g5))] H := hP
  refine lv_aload_n hx hb dX5_placeOf_0 rfl (lv_at hl 0 rfl) ?_
  refine va_get (D := D) (ci := 4) (v := .ref po) (C := "WrongHole$Paths") (T := TX5) (N := 19) hx hb hts (iq_RX5 _) hown hK hP 0 rfl rfl 1 (by first | decide | omega) (hT _ qq_4_137) (fun _ h9 => h9) rfl dX5_placeOf_1 ?_
  refine lv_iload_n hx hb dX5_placeOf_4 rfl (lv_at hl 1 rfl) ?_
  refine lv_bipush (v := 8) hx hb dX5_placeOf_5 (by first | decide | omega) ?_
  refine lv_ishr hx hb dX5_placeOf_7 ?_
  refine lv_topi (fun x_1 e_2 => ?_)
  refine lv_sipush (v := 255) hx hb dX5_placeOf_8 (by first | decide | omega) ?_
  refine lv_iand hx hb dX5_placeOf_11 ?_
  refine lv_topi (fun x_3 e_4 => ?_)
  have r_5 : Rg 0 255 x_3 := Rg.and e_4 (Rg.c (c := 255) (k := 255) rfl) (by first | decide | omega)
  have hi_6 : vp_in x_3 256 := Rg.in r_5 (by first | decide | omega)
  refine va_iald hx hb hK hP 1 0 rfl rfl hi_6 dX5_placeOf_12 ?_
  refine lv_topi (fun x_7 e_8 => ?_)
  have r_9 : Rg 0 65536 x_7 := Rg.of e_8 (a_go _ (in_lt hi_6))
  refine lv_aload_n hx hb dX5_placeOf_13 rfl (lv_at hl 0 rfl) ?_
  refine va_get (D := D) (ci := 4) (v := .ref pr_) (C := "WrongHole$Paths") (T := TX5) (N := 19) hx hb hts (iq_RX5 _) hown hK hP 0 rfl rfl 2 (by first | decide | omega) (hT _ qq_4_138) (fun _ h9 => h9) rfl dX5_placeOf_14 ?_
  refine lv_iload_n hx hb dX5_placeOf_17 rfl (lv_at hl 1 rfl) ?_
  refine lv_sipush (v := 255) hx hb dX5_placeOf_18 (by first | decide | omega) ?_
  refine lv_iand hx hb dX5_placeOf_21 ?_
  refine lv_topi (fun x_10 e_11 => ?_)
  have r_12 : Rg 0 255 x_10 := Rg.and e_11 (Rg.c (c := 255) (k := 255) rfl) (by first | decide | omega)
  have hi_13 : vp_in x_10 256 := Rg.in r_12 (by first | decide | omega)
  refine va_iald hx hb hK hP 2 0 rfl rfl hi_13 dX5_placeOf_22 ?_
  refine lv_topi (fun x_14 e_15 => ?_)
  have r_16 : Rg 0 256 x_14 := Rg.of e_15 (a_gr _ (in_lt hi_13))
  refine lv_iadd hx hb dX5_placeOf_23 ?_
  refine lv_topi (fun x_17 e_18 => ?_)
  have r_19 : Rg 0 65792 x_17 := Rg.add e_18 r_9 r_16 (by first | decide | omega)
  refine lv_istore_n (lv' := [(2, .int x_17), (0, .ref hh), (1, .int a)]) hx hb dX5_placeOf_24 rfl hl (by first | decide | omega) rfl (fun ls hl => ?_)
  refine lv_iload_n hx hb dX5_placeOf_25 rfl (lv_at hl 0 rfl) ?_
  refine lv_aload_n hx hb dX5_placeOf_26 rfl (lv_at hl 1 rfl) ?_
  refine va_get (D := D) (ci := 4) (v := .int zs) (C := "WrongHole$Paths") (T := TX5) (N := 19) hx hb hts (iq_RX5 _) hown hK hP 0 rfl rfl 9 (by first | decide | omega) (hT _ qq_4_145) (fun _ h9 => h9) rfl dX5_placeOf_27 ?_
  refine lv_icmp_ge (tgt := 46) hx hb dX5_placeOf_30 (by first | decide | omega) (fun c_20 => ?_) (fun c_20 => ?_)
  · refine lv_iconst (v := (-1)) hx hb dX5_placeOf_46 (by first | decide | omega) ?_
    exact W.iret (v := (-1)) hx hb hr (fun t9 ht9 hW9 => ⟨⟨_, rfl, _, rfl, (Rg.wk (lo2 := (-1)) (hi2 := ((L : Int) - 1)) (Rg.c (c := (-1)) (k := (-1)) rfl) (by first | decide | omega))⟩, ht9.trans hHe⟩) (fun _ h9 => by rw [hlc] at h9; exact absurd h9 List.not_mem_nil) dX5_placeOf_47
  · have r_21 : Rg 0 65535 x_17 := Rg.lt_l (nle_lt c_20) r_19 r_zs (by first | decide | omega)
    have r_22 : Rg 1 65536 zs := Rg.lt_r (nle_lt c_20) r_19 r_zs (by first | decide | omega)
    refine lv_iload_n hx hb dX5_placeOf_33 rfl (lv_at hl 0 rfl) ?_
    refine lv_aload_n hx hb dX5_placeOf_34 rfl (lv_at hl 1 rfl) ?_
    refine va_get (D := D) (ci := 4) (v := .ref p5) (C := "WrongHole$Paths") (T := TX5) (N := 19) hx hb hts (iq_RX5 _) hown hK hP 0 rfl rfl 5 (by first | decide | omega) (hT _ qq_4_141) (fun _ h9 => h9) rfl dX5_placeOf_35 ?_
    refine va_alen (v := nI L) hx hb hK hP 3 0 rfl rfl rfl dX5_placeOf_38 ?_
    refine lv_icmp_ge (tgt := 46) hx hb dX5_placeOf_39 (by first | decide | omega) (fun c_26 => ?_) (fun c_26 => ?_)
    · refine lv_iconst (v := (-1)) hx hb dX5_placeOf_46 (by first | decide | omega) ?_
      exact W.iret (v := (-1)) hx hb hr (fun t9 ht9 hW9 => ⟨⟨_, rfl, _, rfl, (Rg.wk (lo2 := (-1)) (hi2 := ((L : Int) - 1)) (Rg.c (c := (-1)) (k := (-1)) rfl) (by first | decide | omega))⟩, ht9.trans hHe⟩) (fun _ h9 => by rw [hlc] at h9; exact absurd h9 List.not_mem_nil) dX5_placeOf_47
    · have r_27 : Rg 0 ((L : Int) - 1) x_17 := Rg.lt_l (nle_lt c_26) r_21 (nI_rg (hi := (L : Int)) (Int.le_refl _) (by omega)) (by first | decide | omega)
      have r_28 : Rg 1 (L : Int) (nI L) := Rg.lt_r (nle_lt c_26) r_21 (nI_rg (hi := (L : Int)) (Int.le_refl _) (by omega)) (by first | decide | omega)
      refine lv_iload_n hx hb dX5_placeOf_42 rfl (lv_at hl 0 rfl) ?_
      refine lv_goto (tgt := 47) hx hb dX5_placeOf_43 (by first | decide | omega) ?_
      exact W.iret (v := x_17) hx hb hr (fun t9 ht9 hW9 => ⟨⟨_, rfl, _, rfl, (Rg.wk (lo2 := (-1)) (hi2 := ((L : Int) - 1)) r_27 (by first | decide | omega))⟩, ht9.trans hHe⟩) (fun _ h9 => by rw [hlc] at h9; exact absurd h9 List.not_mem_nil) dX5_placeOf_47
theorem dX5_secondsFrom_0 : decode cX5_secondsFrom 0 = .ok (.aload_n 0, 1) := by decide +kernel
theorem dX5_secondsFrom_1 : decode cX5_secondsFrom 1 = .ok (.iload_n 1, 1) := by decide +kernel
theorem dX5_secondsFrom_2 : decode cX5_secondsFrom 2 = .ok (.invokevirtual 81, 3) := by decide +kernel
theorem qq_4_221 : Cond.code yX5_placeOf cX5_placeOf 3 (some .int) ∈ TB := mk_tb (ti_4 (List.mem_of_getElem? (i := 221) rfl)) rfl
theorem qq_1_21 : Cond.initialized "WrongHole$Paths" ∈ TB := mk_tb (ti_1 (List.mem_of_getElem? (i := 21) rfl)) rfl
theorem qq_4_218 : Cond.methodLink "WrongHole$Paths" 81 yX5_placeOf ∈ TB := mk_tb (ti_4 (List.mem_of_getElem? (i := 218) rfl)) rfl
theorem qq_4_220 : Cond.instanceMethod yX5_placeOf ∈ TB := mk_tb (ti_4 (List.mem_of_getElem? (i := 220) rfl)) rfl
theorem qs_1_4 : Cond.selects "WrongHole$Paths" yX5_placeOf yX5_placeOf ∈ TB := mk_tb (ti_s (q := (yX5_placeOf, 19)) (List.mem_append_right _ (List.mem_append_left _ (List.mem_of_getElem? (i := 4) rfl)))) rfl
theorem dX5_secondsFrom_5 : decode cX5_secondsFrom 5 = .ok (.istore_n 2, 1) := by decide +kernel
theorem dX5_secondsFrom_6 : decode cX5_secondsFrom 6 = .ok (.iload_n 2, 1) := by decide +kernel
theorem dX5_secondsFrom_7 : decode cX5_secondsFrom 7 = .ok (.iconst (-1), 1) := by decide +kernel
theorem dX5_secondsFrom_8 : decode cX5_secondsFrom 8 = .ok (.if_icmp .ne 8, 3) := by decide +kernel
theorem qq_4_211 : Cond.constant "WrongHole$Paths" 85 1000000000 ∈ TB := mk_tb (ti_4 (List.mem_of_getElem? (i := 211) rfl)) rfl
theorem dX5_secondsFrom_16 : decode cX5_secondsFrom 16 = .ok (.aload_n 0, 1) := by decide +kernel
theorem dX5_secondsFrom_17 : decode cX5_secondsFrom 17 = .ok (.getfield 24, 3) := by decide +kernel
theorem dX5_secondsFrom_20 : decode cX5_secondsFrom 20 = .ok (.iload_n 2, 1) := by decide +kernel
theorem dX5_secondsFrom_21 : decode cX5_secondsFrom 21 = .ok (.iaload, 1) := by decide +kernel
theorem dX5_secondsFrom_22 : decode cX5_secondsFrom 22 = .ok (.ireturn, 1) := by decide +kernel
theorem dX5_secondsFrom_11 : decode cX5_secondsFrom 11 = .ok (.ldc 85, 2) := by decide +kernel
theorem dX5_secondsFrom_13 : decode cX5_secondsFrom 13 = .ok (.goto 9, 3) := by decide +kernel
set_option maxHeartbeats 4000000 in
set_option maxRecDepth 100000 in
theorem c_P_secondsFrom (l : Launch) (D : va_G) (cs : Nat → ClassId) (hh : Nat) (ha : Nat) (po : Nat) (pr_ : Nat) (pa : Nat) (pf : Nat) (p5 : Nat) (p6 : Nat) (p7 : Nat) (p8 : Nat) (zs : Int32) (zw : Int32) (zo : Int32) (zr : Int32) (zc : Int32) (zl : Int32) (zm : Int32) (zn : Int32) (zf : Int32) (hl0 : Nat) (L : Nat) (go : Nat → Int32) (gr : Nat → Int32) (g5 : Nat → Int32) (a : Int32) (hL : L ≤ 65536) (r_zs : Rg 0 65536 zs) (a_go : ∀ j, j < 256 → Rg 0 65536 (go j)) (a_gr : ∀ j, j < 256 → Rg 0 256 (gr j)) : Met l yX5_secondsFrom (Cond.code yX5_secondsFrom cX5_secondsFrom 3 (some .int) :: TB) (RM 1 0 0) (va_Pc [.ref hh, .int a] (PRR D cs [(hh, .inr (4, [.ref ha, .ref po, .ref pr_, .ref pa, .ref pf, .ref p5, .ref p6, .ref p7, .ref p8, .int zs, .int zw, .ref hl0, .int zo, .int zr, .int zc, .int zl, .int zm, .int zn, .int zf])), (po, .inl ((cs 0), 256, .inl go)), (pr_, .inl ((cs 0), 256, .inl gr)), (p5, .inl ((cs 0), L, .inl g5))])) (QP (fun v => ∃ x : Int32, v = .int x)) 0 0 (fun _ => False) := by
  refine MER (y := yX5_secondsFrom) (cc := cX5_secondsFrom) (maxL := 3) (ret := (some .int)) (d := 1) (D := D) (cs := cs) (ws := [(hh, .inr (4, [.ref ha, .ref po, .ref pr_, .ref pa, .ref pf, .ref p5, .ref p6, .ref p7, .ref p8, .int zs, .int zw, .ref hl0, .int zo, .int zr, .int zc, .int zl, .int zm, .int zn, .int zf])), (po, .inl ((cs 0), 256, .inl go)), (pr_, .inl ((cs 0), 256, .inl gr)), (p5, .inl ((cs 0), L, .inl g5))]) (av := [.ref hh, .int a]) (Qc := QP (fun v => ∃ x : Int32, v = .int x)) (by decide) (Nat.le_of_ble_eq_true rfl) ?_
  intro p e s m below meth c ls H hHe hx hb hr hml hown hts hlocks hP hK hN hl
  obtain ⟨locs, hlc⟩ : ∃ z : List Loc, z = [] := ⟨_, rfl⟩
  rw [← hlc]
  have hown : s.vm.findClass "WrongHole$Paths" = some m.cls := hown
  have hT : ∀ w ∈ TB, w.before ([.ref hh, .int a] : List Value).toArray s = true := fun w h => hts w (List.mem_cons_of_mem _ h)
  have hl : lv_has ls 3 [(0, .ref hh), (1, .int a)] := hl
  have hP : va_P D vwCl [(hh, .inr (4, [.ref ha, .ref po, .ref pr_, .ref pa, .ref pf, .ref p5, .ref p6, .ref p7, .ref p8, .int zs, .int zw, .ref hl0, .int zo, .int zr, .int zc, .int zl, .int zm, .int zn, .int zf])), (po, .inl ((cs 0), 256, .inl go)), (pr_, .inl ((cs 0), 256, .inl gr)), (p5, .inl ((cs 0), L, .inl g5))] H := hP
  refine lv_aload_n hx hb dX5_secondsFrom_0 rfl (lv_at hl 0 rfl) ?_
  refine lv_iload_n hx hb dX5_secondsFrom_1 rfl (lv_at hl 1 rfl) ?_
  have hPc := va_P.sub (ws' := [(hh, .inr (4, [.ref ha, .ref po, .ref pr_, .ref pa, .ref pf, .ref p5, .ref p6, .ref p7, .ref p8, .int zs, .int zw, .ref hl0, .int zo, .int zr, .int zc, .int zl, .int zm, .int zn, .int zf])), (po, .inl ((cs 0), 256, .inl go)), (pr_, .inl ((cs 0), 256, .inl gr)), (p5, .inl ((cs 0), L, .inl g5))]) hP [0, 1, 2, 3] rfl
  refine cl_P (W.runV (As := [.int a]) (rest := []) ⟨hx, hb, hml, hown, hts⟩ (c_P_placeOf l D cs hh ha po pr_ pa pf p5 p6 p7 p8 zs zw zo zr zc zl zm zn zf hl0 L go gr g5 a hL r_zs a_go a_gr) ⟨callB_of 1 hts (gd_C qq_4_221) rfl rfl rfl (hT _ qq_1_21) (hT _ qq_4_218) (by decide +kernel) (rm_R rfl rfl), (hT _ qq_4_220), (hT _ qs_1_4)⟩ (pq_V hPc hK hN (ci := 4) (q0 := 0) rfl rfl) rfl rfl hl.1 rfl (lv_room (Nat.le_of_ble_eq_true rfl)) dX5_secondsFrom_2 ⟨Nat.le_of_ble_eq_true rfl, Nat.le_of_ble_eq_true rfl⟩) (fun v9 hz_2 => ?_)
  obtain ⟨x_1, rfl, r_3⟩ := hz_2
  refine lv_istore_n (lv' := [(2, .int x_1), (0, .ref hh), (1, .int a)]) hx hb dX5_secondsFrom_5 rfl hl (by first | decide | omega) rfl (fun ls hl => ?_)
  refine lv_iload_n hx hb dX5_secondsFrom_6 rfl (lv_at hl 0 rfl) ?_
  refine lv_iconst (v := (-1)) hx hb dX5_secondsFrom_7 (by first | decide | omega) ?_
  refine lv_icmp_ne (tgt := 16) hx hb dX5_secondsFrom_8 (by first | decide | omega) (fun c_4 => ?_) (fun c_4 => ?_)
  · have r_5 : Rg 0 ((L : Int) - 1) x_1 := Rg.ne c_4 r_3 (Rg.c (c := (-1)) (k := (-1)) rfl) (by first | decide | omega)
    refine lv_aload_n hx hb dX5_secondsFrom_16 rfl (lv_at hl 1 rfl) ?_
    refine va_get (D := D) (ci := 4) (v := .ref p5) (C := "WrongHole$Paths") (T := TX5) (N := 19) hx hb hts (iq_RX5 _) hown hK hP 0 rfl rfl 5 (by first | decide | omega) (hT _ qq_4_141) (fun _ h9 => h9) rfl dX5_secondsFrom_17 ?_
    refine lv_iload_n hx hb dX5_secondsFrom_20 rfl (lv_at hl 0 rfl) ?_
    have hi_9 : vp_in x_1 L := Rg.in r_5 (by omega)
    refine va_iald hx hb hK hP 3 0 rfl rfl hi_9 dX5_secondsFrom_21 ?_
    refine lv_topi (fun x_10 e_11 => ?_)
    exact W.iret (v := x_10) hx hb hr (fun t9 ht9 hW9 => ⟨⟨_, rfl, _, rfl⟩, ht9.trans hHe⟩) (fun _ h9 => by rw [hlc] at h9; exact absurd h9 List.not_mem_nil) dX5_secondsFrom_22
  · have r_6 : Rg (-1) (-1) x_1 := Rg.eq_l c_4 r_3 (Rg.c (c := (-1)) (k := (-1)) rfl) (by first | decide | omega)
    refine lv_ldc (v := 1000000000) hx hb hown (hT _ qq_4_211) dX5_secondsFrom_11 ?_
    refine lv_goto (tgt := 22) hx hb dX5_secondsFrom_13 (by first | decide | omega) ?_
    exact W.iret (v := 1000000000) hx hb hr (fun t9 ht9 hW9 => ⟨⟨_, rfl, _, rfl⟩, ht9.trans hHe⟩) (fun _ h9 => by rw [hlc] at h9; exact absurd h9 List.not_mem_nil) dX5_secondsFrom_22
theorem dX5_link_0 : decode cX5_link 0 = .ok (.iload_n 3, 1) := by decide +kernel
theorem dX5_link_1 : decode cX5_link 1 = .ok (.bipush 63, 2) := by decide +kernel
theorem dX5_link_3 : decode cX5_link 3 = .ok (.iand, 1) := by decide +kernel
theorem dX5_link_4 : decode cX5_link 4 = .ok (.istore 4, 2) := by decide +kernel
theorem dX5_link_6 : decode cX5_link 6 = .ok (.aload_n 0, 1) := by decide +kernel
theorem dX5_link_7 : decode cX5_link 7 = .ok (.getfield 21, 3) := by decide +kernel
theorem qq_4_140 : Cond.fieldLink "WrongHole$Paths" 21 "WrongHole$Paths" "firsts" "[I" ∈ TB := mk_tb (ti_4 (List.mem_of_getElem? (i := 140) rfl)) rfl
theorem dX5_link_10 : decode cX5_link 10 = .ok (.iload 4, 2) := by decide +kernel
theorem dX5_link_12 : decode cX5_link 12 = .ok (.iaload, 1) := by decide +kernel
theorem dX5_link_13 : decode cX5_link 13 = .ok (.istore 5, 2) := by decide +kernel
theorem dX5_link_15 : decode cX5_link 15 = .ok (.aload_n 0, 1) := by decide +kernel
theorem dX5_link_16 : decode cX5_link 16 = .ok (.getfield 24, 3) := by decide +kernel
theorem dX5_link_19 : decode cX5_link 19 = .ok (.iload_n 1, 1) := by decide +kernel
theorem dX5_link_20 : decode cX5_link 20 = .ok (.iload_n 3, 1) := by decide +kernel
theorem dX5_link_21 : decode cX5_link 21 = .ok (.iastore, 1) := by decide +kernel
theorem dX5_link_22 : decode cX5_link 22 = .ok (.aload_n 0, 1) := by decide +kernel
theorem dX5_link_23 : decode cX5_link 23 = .ok (.getfield 27, 3) := by decide +kernel
theorem qq_4_142 : Cond.fieldLink "WrongHole$Paths" 27 "WrongHole$Paths" "keys" "[I" ∈ TB := mk_tb (ti_4 (List.mem_of_getElem? (i := 142) rfl)) rfl
theorem dX5_link_26 : decode cX5_link 26 = .ok (.iload_n 1, 1) := by decide +kernel
theorem dX5_link_27 : decode cX5_link 27 = .ok (.iload_n 2, 1) := by decide +kernel
theorem dX5_link_28 : decode cX5_link 28 = .ok (.iastore, 1) := by decide +kernel
theorem dX5_link_29 : decode cX5_link 29 = .ok (.aload_n 0, 1) := by decide +kernel
theorem dX5_link_30 : decode cX5_link 30 = .ok (.getfield 30, 3) := by decide +kernel
theorem qq_4_143 : Cond.fieldLink "WrongHole$Paths" 30 "WrongHole$Paths" "nexts" "[I" ∈ TB := mk_tb (ti_4 (List.mem_of_getElem? (i := 143) rfl)) rfl
theorem dX5_link_33 : decode cX5_link 33 = .ok (.iload_n 1, 1) := by decide +kernel
theorem dX5_link_34 : decode cX5_link 34 = .ok (.iload 5, 2) := by decide +kernel
theorem dX5_link_36 : decode cX5_link 36 = .ok (.iastore, 1) := by decide +kernel
theorem dX5_link_37 : decode cX5_link 37 = .ok (.aload_n 0, 1) := by decide +kernel
theorem dX5_link_38 : decode cX5_link 38 = .ok (.getfield 33, 3) := by decide +kernel
theorem qq_4_144 : Cond.fieldLink "WrongHole$Paths" 33 "WrongHole$Paths" "befores" "[I" ∈ TB := mk_tb (ti_4 (List.mem_of_getElem? (i := 144) rfl)) rfl
theorem dX5_link_41 : decode cX5_link 41 = .ok (.iload_n 1, 1) := by decide +kernel
theorem dX5_link_42 : decode cX5_link 42 = .ok (.iconst (-1), 1) := by decide +kernel
theorem dX5_link_43 : decode cX5_link 43 = .ok (.iastore, 1) := by decide +kernel
theorem dX5_link_44 : decode cX5_link 44 = .ok (.iload 5, 2) := by decide +kernel
theorem dX5_link_46 : decode cX5_link 46 = .ok (.ifCond .lt 11, 3) := by decide +kernel
theorem dX5_link_57 : decode cX5_link 57 = .ok (.aload_n 0, 1) := by decide +kernel
theorem dX5_link_58 : decode cX5_link 58 = .ok (.getfield 21, 3) := by decide +kernel
theorem dX5_link_61 : decode cX5_link 61 = .ok (.iload 4, 2) := by decide +kernel
theorem dX5_link_63 : decode cX5_link 63 = .ok (.iload_n 1, 1) := by decide +kernel
theorem dX5_link_64 : decode cX5_link 64 = .ok (.iastore, 1) := by decide +kernel
theorem dX5_link_65 : decode cX5_link 65 = .ok (.aload_n 0, 1) := by decide +kernel
theorem dX5_link_66 : decode cX5_link 66 = .ok (.dup, 1) := by decide +kernel
theorem dX5_link_67 : decode cX5_link 67 = .ok (.getfield 123, 3) := by decide +kernel
theorem qq_4_146 : Cond.fieldLink "WrongHole$Paths" 123 "WrongHole$Paths" "waiting" "I" ∈ TB := mk_tb (ti_4 (List.mem_of_getElem? (i := 146) rfl)) rfl
theorem dX5_link_70 : decode cX5_link 70 = .ok (.iconst 1, 1) := by decide +kernel
theorem dX5_link_71 : decode cX5_link 71 = .ok (.iadd, 1) := by decide +kernel
theorem dX5_link_72 : decode cX5_link 72 = .ok (.putfield 123, 3) := by decide +kernel
theorem dX5_link_75 : decode cX5_link 75 = .ok (.return_, 1) := by decide +kernel
theorem dX5_link_49 : decode cX5_link 49 = .ok (.aload_n 0, 1) := by decide +kernel
theorem dX5_link_50 : decode cX5_link 50 = .ok (.getfield 33, 3) := by decide +kernel
theorem dX5_link_53 : decode cX5_link 53 = .ok (.iload 5, 2) := by decide +kernel
theorem dX5_link_55 : decode cX5_link 55 = .ok (.iload_n 1, 1) := by decide +kernel
theorem dX5_link_56 : decode cX5_link 56 = .ok (.iastore, 1) := by decide +kernel
set_option maxHeartbeats 4000000 in
set_option maxRecDepth 100000 in
theorem c_P_link (l : Launch) (D : va_G) (cs : Nat → ClassId) (X : XX) (sz : Nat) (hh : Nat) (ha : Nat) (po : Nat) (pr_ : Nat) (pa : Nat) (pf : Nat) (p5 : Nat) (p6 : Nat) (p7 : Nat) (p8 : Nat) (zs : Int32) (zw : Int32) (zo : Int32) (zr : Int32) (zc : Int32) (zl : Int32) (zm : Int32) (zn : Int32) (zf : Int32) (hl0 : Nat) (L : Nat) (gf : Nat → Int32) (g5 : Nat → Int32) (g6 : Nat → Int32) (g7 : Nat → Int32) (g8 : Nat → Int32) (x : Int32) (a : Int32) (b : Int32) (hL : L ≤ 65536) (r_x : Rg 0 ((L : Int) - 1) x) (a_gf : ∀ j, j < 64 → Rg (-1) ((L : Int) - 1) (gf j)) (a_g7 : ∀ j, j < L → Rg (-1) ((L : Int) - 1) (g7 j)) (a_g8 : ∀ j, j < L → Rg (-1) ((L : Int) - 1) (g8 j)) : Met l yX5_link (Cond.code yX5_link cX5_link 6 none :: TB) (RM 0 0 0) (va_Pc [.ref hh, .int x, .int a, .int b] (PRE D cs X [(hh, .inr (4, [.ref ha, .ref po, .ref pr_, .ref pa, .ref pf, .ref p5, .ref p6, .ref p7, .ref p8, .int zs, .int zw, .ref hl0, .int zo, .int zr, .int zc, .int zl, .int zm, .int zn, .int zf])), (pf, .inl ((cs 0), 64, .inl gf)), (p5, .inl ((cs 0), L, .inl g5)), (p6, .inl ((cs 0), L, .inl g6)), (p7, .inl ((cs 0), L, .inl g7)), (p8, .inl ((cs 0), L, .inl g8))] [] sz)) (va_Qv (S := Unit) (fun _ => True) (fun _ t => ∃ (zw2 : Int32), ∃ (gfn : Nat → Int32), ∃ (g5n : Nat → Int32), ∃ (g6n : Nat → Int32), ∃ (g7n : Nat → Int32), ∃ (g8n : Nat → Int32), (∀ j, j < 64 → Rg (-1) ((L : Int) - 1) (gfn j)) ∧ (∀ j, j < L → Rg (-1) ((L : Int) - 1) (g7n j)) ∧ (∀ j, j < L → Rg (-1) ((L : Int) - 1) (g8n j)) ∧ va_P D vwCl [(hh, .inr (4, [.ref ha, .ref po, .ref pr_, .ref pa, .ref pf, .ref p5, .ref p6, .ref p7, .ref p8, .int zs, .int zw2, .ref hl0, .int zo, .int zr, .int zc, .int zl, .int zm, .int zn, .int zf])), (pf, .inl ((cs 0), 64, .inl gfn)), (p5, .inl ((cs 0), L, .inl g5n)), (p6, .inl ((cs 0), L, .inl g6n)), (p7, .inl ((cs 0), L, .inl g7n)), (p8, .inl ((cs 0), L, .inl g8n))] t.heap ∧ va_D (va_A [(hh, .inr (4, [.ref ha, .ref po, .ref pr_, .ref pa, .ref pf, .ref p5, .ref p6, .ref p7, .ref p8, .int zs, .int zw, .ref hl0, .int zo, .int zr, .int zc, .int zl, .int zm, .int zn, .int zf])), (pf, .inl ((cs 0), 64, .inl gf)), (p5, .inl ((cs 0), L, .inl g5)), (p6, .inl ((cs 0), L, .inl g6)), (p7, .inl ((cs 0), L, .inl g7)), (p8, .inl ((cs 0), L, .inl g8))] sz) [(hh, .inr (4, [.ref ha, .ref po, .ref pr_, .ref pa, .ref pf, .ref p5, .ref p6, .ref p7, .ref p8, .int zs, .int zw2, .ref hl0, .int zo, .int zr, .int zc, .int zl, .int zm, .int zn, .int zf])), (pf, .inl ((cs 0), 64, .inl gfn)), (p5, .inl ((cs 0), L, .inl g5n)), (p6, .inl ((cs 0), L, .inl g6n)), (p7, .inl ((cs 0), L, .inl g7n)), (p8, .inl ((cs 0), L, .inl g8n))]) (va_A [(hh, .inr (4, [.ref ha, .ref po, .ref pr_, .ref pa, .ref pf, .ref p5, .ref p6, .ref p7, .ref p8, .int zs, .int zw, .ref hl0, .int zo, .int zr, .int zc, .int zl, .int zm, .int zn, .int zf])), (pf, .inl ((cs 0), 64, .inl gf)), (p5, .inl ((cs 0), L, .inl g5)), (p6, .inl ((cs 0), L, .inl g6)), (p7, .inl ((cs 0), L, .inl g7)), (p8, .inl ((cs 0), L, .inl g8))] sz)) 0 0 (va_A [(hh, .inr (4, [.ref ha, .ref po, .ref pr_, .ref pa, .ref pf, .ref p5, .ref p6, .ref p7, .ref p8, .int zs, .int zw, .ref hl0, .int zo, .int zr, .int zc, .int zl, .int zm, .int zn, .int zf])), (pf, .inl ((cs 0), 64, .inl gf)), (p5, .inl ((cs 0), L, .inl g5)), (p6, .inl ((cs 0), L, .inl g6)), (p7, .inl ((cs 0), L, .inl g7)), (p8, .inl ((cs 0), L, .inl g8))] sz) := by
  refine MET (y := yX5_link) (cc := cX5_link) (maxL := 6) (ret := none) (d := 0) (mc := 0) (ms := 0) (D := D) (cs := cs) (X := X) (ws := [(hh, .inr (4, [.ref ha, .ref po, .ref pr_, .ref pa, .ref pf, .ref p5, .ref p6, .ref p7, .ref p8, .int zs, .int zw, .ref hl0, .int zo, .int zr, .int zc, .int zl, .int zm, .int zn, .int zf])), (pf, .inl ((cs 0), 64, .inl gf)), (p5, .inl ((cs 0), L, .inl g5)), (p6, .inl ((cs 0), L, .inl g6)), (p7, .inl ((cs 0), L, .inl g7)), (p8, .inl ((cs 0), L, .inl g8))]) (wo := []) (sz := sz) (av := [.ref hh, .int x, .int a, .int b]) (Qc := fun A => va_Qv (S := Unit) (fun _ => True) (fun _ t => ∃ (zw2 : Int32), ∃ (gfn : Nat → Int32), ∃ (g5n : Nat → Int32), ∃ (g6n : Nat → Int32), ∃ (g7n : Nat → Int32), ∃ (g8n : Nat → Int32), (∀ j, j < 64 → Rg (-1) ((L : Int) - 1) (gfn j)) ∧ (∀ j, j < L → Rg (-1) ((L : Int) - 1) (g7n j)) ∧ (∀ j, j < L → Rg (-1) ((L : Int) - 1) (g8n j)) ∧ va_P D vwCl [(hh, .inr (4, [.ref ha, .ref po, .ref pr_, .ref pa, .ref pf, .ref p5, .ref p6, .ref p7, .ref p8, .int zs, .int zw2, .ref hl0, .int zo, .int zr, .int zc, .int zl, .int zm, .int zn, .int zf])), (pf, .inl ((cs 0), 64, .inl gfn)), (p5, .inl ((cs 0), L, .inl g5n)), (p6, .inl ((cs 0), L, .inl g6n)), (p7, .inl ((cs 0), L, .inl g7n)), (p8, .inl ((cs 0), L, .inl g8n))] t.heap ∧ va_D A [(hh, .inr (4, [.ref ha, .ref po, .ref pr_, .ref pa, .ref pf, .ref p5, .ref p6, .ref p7, .ref p8, .int zs, .int zw2, .ref hl0, .int zo, .int zr, .int zc, .int zl, .int zm, .int zn, .int zf])), (pf, .inl ((cs 0), 64, .inl gfn)), (p5, .inl ((cs 0), L, .inl g5n)), (p6, .inl ((cs 0), L, .inl g6n)), (p7, .inl ((cs 0), L, .inl g7n)), (p8, .inl ((cs 0), L, .inl g8n))]) A) (by decide) (Nat.le_of_ble_eq_true rfl) ?_
  intro p e s m below meth c ls A H hHe hx hb hr hml hown hts hlocks hnm hP hK hD hA hS hN hR hX hXs hl
  have hD : va_D A [(hh, .inr (4, [.ref ha, .ref po, .ref pr_, .ref pa, .ref pf, .ref p5, .ref p6, .ref p7, .ref p8, .int zs, .int zw, .ref hl0, .int zo, .int zr, .int zc, .int zl, .int zm, .int zn, .int zf])), (pf, .inl ((cs 0), 64, .inl gf)), (p5, .inl ((cs 0), L, .inl g5)), (p6, .inl ((cs 0), L, .inl g6)), (p7, .inl ((cs 0), L, .inl g7)), (p8, .inl ((cs 0), L, .inl g8))] := hD
  obtain ⟨locs, hlc⟩ : ∃ z : List Loc, z = [] := ⟨_, rfl⟩
  rw [← hlc] at hS ⊢
  have hown : s.vm.findClass "WrongHole$Paths" = some m.cls := hown
  have hT : ∀ w ∈ TB, w.before ([.ref hh, .int x, .int a, .int b] : List Value).toArray s = true := fun w h => hts w (List.mem_cons_of_mem _ h)
  have hl : lv_has ls 6 [(0, .ref hh), (1, .int x), (2, .int a), (3, .int b)] := hl
  have hP : va_P D vwCl [(hh, .inr (4, [.ref ha, .ref po, .ref pr_, .ref pa, .ref pf, .ref p5, .ref p6, .ref p7, .ref p8, .int zs, .int zw, .ref hl0, .int zo, .int zr, .int zc, .int zl, .int zm, .int zn, .int zf])), (pf, .inl ((cs 0), 64, .inl gf)), (p5, .inl ((cs 0), L, .inl g5)), (p6, .inl ((cs 0), L, .inl g6)), (p7, .inl ((cs 0), L, .inl g7)), (p8, .inl ((cs 0), L, .inl g8))] H := hP
  refine lv_iload_n hx hb dX5_link_0 rfl (lv_at hl 3 rfl) ?_
  refine lv_bipush (v := 63) hx hb dX5_link_1 (by first | decide | omega) ?_
  refine lv_iand hx hb dX5_link_3 ?_
  refine lv_topi (fun x_1 e_2 => ?_)
  have r_3 : Rg 0 63 x_1 := Rg.and e_2 (Rg.c (c := 63) (k := 63) rfl) (by first | decide | omega)
  refine lv_istore (lv' := [(4, .int x_1), (0, .ref hh), (1, .int x), (2, .int a), (3, .int b)]) hx hb dX5_link_4 hl (by first | decide | omega) rfl (fun ls hl => ?_)
  refine lv_aload_n hx hb dX5_link_6 rfl (lv_at hl 1 rfl) ?_
  refine va_get (D := D) (ci := 4) (v := .ref pf) (C := "WrongHole$Paths") (T := TX5) (N := 19) hx hb hts (iq_RX5 _) hown hK hP 0 rfl rfl 4 (by first | decide | omega) (hT _ qq_4_140) (fun _ h9 => h9) rfl dX5_link_7 ?_
  refine lv_iload hx hb dX5_link_10 (lv_at hl 0 rfl) ?_
  have hi_4 : vp_in x_1 64 := Rg.in r_3 (by first | decide | omega)
  refine va_iald hx hb hK hP 1 0 rfl rfl hi_4 dX5_link_12 ?_
  refine lv_topi (fun x_5 e_6 => ?_)
  have r_7 : Rg (-1) ((L : Int) - 1) x_5 := Rg.of e_6 (a_gf _ (in_lt hi_4))
  refine lv_istore (lv' := [(5, .int x_5), (4, .int x_1), (0, .ref hh), (1, .int x), (2, .int a), (3, .int b)]) hx hb dX5_link_13 hl (by first | decide | omega) rfl (fun ls hl => ?_)
  refine lv_aload_n hx hb dX5_link_15 rfl (lv_at hl 2 rfl) ?_
  refine va_get (D := D) (ci := 4) (v := .ref p5) (C := "WrongHole$Paths") (T := TX5) (N := 19) hx hb hts (iq_RX5 _) hown hK hP 0 rfl rfl 5 (by first | decide | omega) (hT _ qq_4_141) (fun _ h9 => h9) rfl dX5_link_16 ?_
  refine lv_iload_n hx hb dX5_link_19 rfl (lv_at hl 3 rfl) ?_
  refine lv_iload_n hx hb dX5_link_20 rfl (lv_at hl 5 rfl) ?_
  have hi_8 : vp_in x L := Rg.in r_x (by omega)
  refine va_iast hx hb hK hP hD hS 2 0 rfl rfl hi_8 dX5_link_21 (fun H locs hP hD hS => ?_)
  obtain ⟨g_9, hP, hD⟩ : ∃ g_9 : Nat → Int32, va_P D vwCl [(hh, .inr (4, [.ref ha, .ref po, .ref pr_, .ref pa, .ref pf, .ref p5, .ref p6, .ref p7, .ref p8, .int zs, .int zw, .ref hl0, .int zo, .int zr, .int zc, .int zl, .int zm, .int zn, .int zf])), (pf, .inl ((cs 0), 64, .inl gf)), (p5, .inl ((cs 0), L, .inl g_9)), (p6, .inl ((cs 0), L, .inl g6)), (p7, .inl ((cs 0), L, .inl g7)), (p8, .inl ((cs 0), L, .inl g8))] H ∧ va_D A [(hh, .inr (4, [.ref ha, .ref po, .ref pr_, .ref pa, .ref pf, .ref p5, .ref p6, .ref p7, .ref p8, .int zs, .int zw, .ref hl0, .int zo, .int zr, .int zc, .int zl, .int zm, .int zn, .int zf])), (pf, .inl ((cs 0), 64, .inl gf)), (p5, .inl ((cs 0), L, .inl g_9)), (p6, .inl ((cs 0), L, .inl g6)), (p7, .inl ((cs 0), L, .inl g7)), (p8, .inl ((cs 0), L, .inl g8))] := ⟨_, hP, hD⟩
  refine lv_aload_n hx hb dX5_link_22 rfl (lv_at hl 2 rfl) ?_
  refine va_get (D := D) (ci := 4) (v := .ref p6) (C := "WrongHole$Paths") (T := TX5) (N := 19) hx hb hts (iq_RX5 _) hown hK hP 0 rfl rfl 6 (by first | decide | omega) (hT _ qq_4_142) (fun _ h9 => h9) rfl dX5_link_23 ?_
  refine lv_iload_n hx hb dX5_link_26 rfl (lv_at hl 3 rfl) ?_
  refine lv_iload_n hx hb dX5_link_27 rfl (lv_at hl 4 rfl) ?_
  have hi_10 : vp_in x L := Rg.in r_x (by omega)
  refine va_iast hx hb hK hP hD hS 3 0 rfl rfl hi_10 dX5_link_28 (fun H locs hP hD hS => ?_)
  obtain ⟨g_11, hP, hD⟩ : ∃ g_11 : Nat → Int32, va_P D vwCl [(hh, .inr (4, [.ref ha, .ref po, .ref pr_, .ref pa, .ref pf, .ref p5, .ref p6, .ref p7, .ref p8, .int zs, .int zw, .ref hl0, .int zo, .int zr, .int zc, .int zl, .int zm, .int zn, .int zf])), (pf, .inl ((cs 0), 64, .inl gf)), (p5, .inl ((cs 0), L, .inl g_9)), (p6, .inl ((cs 0), L, .inl g_11)), (p7, .inl ((cs 0), L, .inl g7)), (p8, .inl ((cs 0), L, .inl g8))] H ∧ va_D A [(hh, .inr (4, [.ref ha, .ref po, .ref pr_, .ref pa, .ref pf, .ref p5, .ref p6, .ref p7, .ref p8, .int zs, .int zw, .ref hl0, .int zo, .int zr, .int zc, .int zl, .int zm, .int zn, .int zf])), (pf, .inl ((cs 0), 64, .inl gf)), (p5, .inl ((cs 0), L, .inl g_9)), (p6, .inl ((cs 0), L, .inl g_11)), (p7, .inl ((cs 0), L, .inl g7)), (p8, .inl ((cs 0), L, .inl g8))] := ⟨_, hP, hD⟩
  refine lv_aload_n hx hb dX5_link_29 rfl (lv_at hl 2 rfl) ?_
  refine va_get (D := D) (ci := 4) (v := .ref p7) (C := "WrongHole$Paths") (T := TX5) (N := 19) hx hb hts (iq_RX5 _) hown hK hP 0 rfl rfl 7 (by first | decide | omega) (hT _ qq_4_143) (fun _ h9 => h9) rfl dX5_link_30 ?_
  refine lv_iload_n hx hb dX5_link_33 rfl (lv_at hl 3 rfl) ?_
  refine lv_iload hx hb dX5_link_34 (lv_at hl 0 rfl) ?_
  have hi_12 : vp_in x L := Rg.in r_x (by omega)
  refine va_iast hx hb hK hP hD hS 4 0 rfl rfl hi_12 dX5_link_36 (fun H locs hP hD hS => ?_)
  obtain ⟨g_13, ra_14, hP, hD⟩ : ∃ g_13 : Nat → Int32, (∀ j, j < L → Rg (-1) ((L : Int) - 1) (g_13 j)) ∧ va_P D vwCl [(hh, .inr (4, [.ref ha, .ref po, .ref pr_, .ref pa, .ref pf, .ref p5, .ref p6, .ref p7, .ref p8, .int zs, .int zw, .ref hl0, .int zo, .int zr, .int zc, .int zl, .int zm, .int zn, .int zf])), (pf, .inl ((cs 0), 64, .inl gf)), (p5, .inl ((cs 0), L, .inl g_9)), (p6, .inl ((cs 0), L, .inl g_11)), (p7, .inl ((cs 0), L, .inl g_13)), (p8, .inl ((cs 0), L, .inl g8))] H ∧ va_D A [(hh, .inr (4, [.ref ha, .ref po, .ref pr_, .ref pa, .ref pf, .ref p5, .ref p6, .ref p7, .ref p8, .int zs, .int zw, .ref hl0, .int zo, .int zr, .int zc, .int zl, .int zm, .int zn, .int zf])), (pf, .inl ((cs 0), 64, .inl gf)), (p5, .inl ((cs 0), L, .inl g_9)), (p6, .inl ((cs 0), L, .inl g_11)), (p7, .inl ((cs 0), L, .inl g_13)), (p8, .inl ((cs 0), L, .inl g8))] := ⟨_, ar_upd a_g7 r_7, hP, hD⟩
  refine lv_aload_n hx hb dX5_link_37 rfl (lv_at hl 2 rfl) ?_
  refine va_get (D := D) (ci := 4) (v := .ref p8) (C := "WrongHole$Paths") (T := TX5) (N := 19) hx hb hts (iq_RX5 _) hown hK hP 0 rfl rfl 8 (by first | decide | omega) (hT _ qq_4_144) (fun _ h9 => h9) rfl dX5_link_38 ?_
  refine lv_iload_n hx hb dX5_link_41 rfl (lv_at hl 3 rfl) ?_
  refine lv_iconst (v := (-1)) hx hb dX5_link_42 (by first | decide | omega) ?_
  have hi_15 : vp_in x L := Rg.in r_x (by omega)
  refine va_iast hx hb hK hP hD hS 5 0 rfl rfl hi_15 dX5_link_43 (fun H locs hP hD hS => ?_)
  obtain ⟨g_16, ra_17, hP, hD⟩ : ∃ g_16 : Nat → Int32, (∀ j, j < L → Rg (-1) ((L : Int) - 1) (g_16 j)) ∧ va_P D vwCl [(hh, .inr (4, [.ref ha, .ref po, .ref pr_, .ref pa, .ref pf, .ref p5, .ref p6, .ref p7, .ref p8, .int zs, .int zw, .ref hl0, .int zo, .int zr, .int zc, .int zl, .int zm, .int zn, .int zf])), (pf, .inl ((cs 0), 64, .inl gf)), (p5, .inl ((cs 0), L, .inl g_9)), (p6, .inl ((cs 0), L, .inl g_11)), (p7, .inl ((cs 0), L, .inl g_13)), (p8, .inl ((cs 0), L, .inl g_16))] H ∧ va_D A [(hh, .inr (4, [.ref ha, .ref po, .ref pr_, .ref pa, .ref pf, .ref p5, .ref p6, .ref p7, .ref p8, .int zs, .int zw, .ref hl0, .int zo, .int zr, .int zc, .int zl, .int zm, .int zn, .int zf])), (pf, .inl ((cs 0), 64, .inl gf)), (p5, .inl ((cs 0), L, .inl g_9)), (p6, .inl ((cs 0), L, .inl g_11)), (p7, .inl ((cs 0), L, .inl g_13)), (p8, .inl ((cs 0), L, .inl g_16))] := ⟨_, ar_upd a_g8 (Rg.wk (lo2 := (-1)) (hi2 := ((L : Int) - 1)) (Rg.c (c := (-1)) (k := (-1)) rfl) (by first | decide | omega)), hP, hD⟩
  refine lv_iload hx hb dX5_link_44 (lv_at hl 0 rfl) ?_
  refine w_cut (σ := (Nat → Int32)) (fun (g_23 : Nat → Int32) H locs ls => (∀ j, j < L → Rg (-1) ((L : Int) - 1) (g_23 j)) ∧ va_P D vwCl [(hh, .inr (4, [.ref ha, .ref po, .ref pr_, .ref pa, .ref pf, .ref p5, .ref p6, .ref p7, .ref p8, .int zs, .int zw, .ref hl0, .int zo, .int zr, .int zc, .int zl, .int zm, .int zn, .int zf])), (pf, .inl ((cs 0), 64, .inl gf)), (p5, .inl ((cs 0), L, .inl g_9)), (p6, .inl ((cs 0), L, .inl g_11)), (p7, .inl ((cs 0), L, .inl g_13)), (p8, .inl ((cs 0), L, .inl g_23))] H ∧ va_D A [(hh, .inr (4, [.ref ha, .ref po, .ref pr_, .ref pa, .ref pf, .ref p5, .ref p6, .ref p7, .ref p8, .int zs, .int zw, .ref hl0, .int zo, .int zr, .int zc, .int zl, .int zm, .int zn, .int zf])), (pf, .inl ((cs 0), 64, .inl gf)), (p5, .inl ((cs 0), L, .inl g_9)), (p6, .inl ((cs 0), L, .inl g_11)), (p7, .inl ((cs 0), L, .inl g_13)), (p8, .inl ((cs 0), L, .inl g_23))] ∧ va_S A s.heap H locs ∧ lv_has ls 6 [(5, .int x_5), (4, .int x_1), (0, .ref hh), (1, .int x), (2, .int a), (3, .int b)]) 57 (fun (g_23 : Nat → Int32) => []) ?_ (fun hj_24 => ?_)
  · rintro g_23 H locs ls ⟨ra_25, hP, hD, hS, hl⟩
    refine lv_aload_n hx hb dX5_link_57 rfl (lv_at hl 2 rfl) ?_
    refine va_get (D := D) (ci := 4) (v := .ref pf) (C := "WrongHole$Paths") (T := TX5) (N := 19) hx hb hts (iq_RX5 _) hown hK hP 0 rfl rfl 4 (by first | decide | omega) (hT _ qq_4_140) (fun _ h9 => h9) rfl dX5_link_58 ?_
    refine lv_iload hx hb dX5_link_61 (lv_at hl 1 rfl) ?_
    refine lv_iload_n hx hb dX5_link_63 rfl (lv_at hl 3 rfl) ?_
    have hi_26 : vp_in x_1 64 := Rg.in r_3 (by first | decide | omega)
    refine va_iast hx hb hK hP hD hS 1 0 rfl rfl hi_26 dX5_link_64 (fun H locs hP hD hS => ?_)
    obtain ⟨g_27, ra_28, hP, hD⟩ : ∃ g_27 : Nat → Int32, (∀ j, j < 64 → Rg (-1) ((L : Int) - 1) (g_27 j)) ∧ va_P D vwCl [(hh, .inr (4, [.ref ha, .ref po, .ref pr_, .ref pa, .ref pf, .ref p5, .ref p6, .ref p7, .ref p8, .int zs, .int zw, .ref hl0, .int zo, .int zr, .int zc, .int zl, .int zm, .int zn, .int zf])), (pf, .inl ((cs 0), 64, .inl g_27)), (p5, .inl ((cs 0), L, .inl g_9)), (p6, .inl ((cs 0), L, .inl g_11)), (p7, .inl ((cs 0), L, .inl g_13)), (p8, .inl ((cs 0), L, .inl g_23))] H ∧ va_D A [(hh, .inr (4, [.ref ha, .ref po, .ref pr_, .ref pa, .ref pf, .ref p5, .ref p6, .ref p7, .ref p8, .int zs, .int zw, .ref hl0, .int zo, .int zr, .int zc, .int zl, .int zm, .int zn, .int zf])), (pf, .inl ((cs 0), 64, .inl g_27)), (p5, .inl ((cs 0), L, .inl g_9)), (p6, .inl ((cs 0), L, .inl g_11)), (p7, .inl ((cs 0), L, .inl g_13)), (p8, .inl ((cs 0), L, .inl g_23))] := ⟨_, ar_upd a_gf (Rg.wk (lo2 := (-1)) (hi2 := ((L : Int) - 1)) r_x (by first | decide | omega)), hP, hD⟩
    refine lv_aload_n hx hb dX5_link_65 rfl (lv_at hl 2 rfl) ?_
    refine lv_dup hx hb dX5_link_66 rfl ?_
    refine va_get (D := D) (ci := 4) (v := .int zw) (C := "WrongHole$Paths") (T := TX5) (N := 19) hx hb hts (iq_RX5 _) hown hK hP 0 rfl rfl 10 (by first | decide | omega) (hT _ qq_4_146) (fun _ h9 => h9) rfl dX5_link_67 ?_
    refine lv_iconst (v := 1) hx hb dX5_link_70 (by first | decide | omega) ?_
    refine lv_iadd hx hb dX5_link_71 ?_
    refine lv_topi (fun x_29 e_30 => ?_)
    refine va_put (D := D) (ci := 4) (v := .int x_29) (ty := .int) (C := "WrongHole$Paths") (T := TX5) (N := 19) hx hb hts (iq_RX5 _) tyX5 tyX5_ok nmX5 hown hK hP hD hS 0 rfl rfl 10 (by first | decide | omega) (hT _ qq_4_146) (fun _ h9 => h9) rfl (by decide +kernel) rfl rfl (Nat.le_of_ble_eq_true rfl) dX5_link_72 (fun H locs hP hD hS => ?_)
    have hP : va_P D vwCl [(hh, .inr (4, [.ref ha, .ref po, .ref pr_, .ref pa, .ref pf, .ref p5, .ref p6, .ref p7, .ref p8, .int zs, .int x_29, .ref hl0, .int zo, .int zr, .int zc, .int zl, .int zm, .int zn, .int zf])), (pf, .inl ((cs 0), 64, .inl g_27)), (p5, .inl ((cs 0), L, .inl g_9)), (p6, .inl ((cs 0), L, .inl g_11)), (p7, .inl ((cs 0), L, .inl g_13)), (p8, .inl ((cs 0), L, .inl g_23))] H := hP
    have hD : va_D A [(hh, .inr (4, [.ref ha, .ref po, .ref pr_, .ref pa, .ref pf, .ref p5, .ref p6, .ref p7, .ref p8, .int zs, .int x_29, .ref hl0, .int zo, .int zr, .int zc, .int zl, .int zm, .int zn, .int zf])), (pf, .inl ((cs 0), 64, .inl g_27)), (p5, .inl ((cs 0), L, .inl g_9)), (p6, .inl ((cs 0), L, .inl g_11)), (p7, .inl ((cs 0), L, .inl g_13)), (p8, .inl ((cs 0), L, .inl g_23))] := hD
    refine W.widen (k := 0) (n := 0) (Nat.le_of_ble_eq_true rfl) (Nat.le_of_ble_eq_true rfl) ?_
    have hP9 := hP.sub (ws' := [(hh, .inr (4, [.ref ha, .ref po, .ref pr_, .ref pa, .ref pf, .ref p5, .ref p6, .ref p7, .ref p8, .int zs, .int x_29, .ref hl0, .int zo, .int zr, .int zc, .int zl, .int zm, .int zn, .int zf])), (pf, .inl ((cs 0), 64, .inl g_27)), (p5, .inl ((cs 0), L, .inl g_9)), (p6, .inl ((cs 0), L, .inl g_11)), (p7, .inl ((cs 0), L, .inl g_13)), (p8, .inl ((cs 0), L, .inl g_23))]) [0, 1, 2, 3, 4, 5] rfl
    have hD9 := hD.sub (ws' := [(hh, .inr (4, [.ref ha, .ref po, .ref pr_, .ref pa, .ref pf, .ref p5, .ref p6, .ref p7, .ref p8, .int zs, .int x_29, .ref hl0, .int zo, .int zr, .int zc, .int zl, .int zm, .int zn, .int zf])), (pf, .inl ((cs 0), 64, .inl g_27)), (p5, .inl ((cs 0), L, .inl g_9)), (p6, .inl ((cs 0), L, .inl g_11)), (p7, .inl ((cs 0), L, .inl g_13)), (p8, .inl ((cs 0), L, .inl g_23))]) [0, 1, 2, 3, 4, 5] (by first | decide | omega) rfl
    exact W.vret hx hb hr (fun t9 ht9 hW9 => ⟨⟨(), rfl, trivial, ⟨x_29, g_27, g_9, g_11, g_13, g_23, ra_28, ra_14, ra_25, by rw [ht9]; exact hP9, hD9⟩⟩, hS.F ht9⟩) hS.2.2 dX5_link_75
  · refine lv_if_lt (tgt := 57) hx hb dX5_link_46 (by first | decide | omega) (fun c_18 => ?_) (fun c_18 => ?_)
    · have r_19 : Rg (-1) (-1) x_5 := Rg.lt_l c_18 r_7 (Rg.c (c := 0) (k := 0) rfl) (by first | decide | omega)
      exact hj_24 g_16 _ _ _ ⟨ra_17, hP, hD, hS, lv_sub hl [0, 1, 2, 3, 4, 5] rfl⟩
    · have r_20 : Rg 0 ((L : Int) - 1) x_5 := Rg.le_r (nlt_le c_18) (Rg.c (c := 0) (k := 0) rfl) r_7 (by first | decide | omega)
      refine lv_aload_n hx hb dX5_link_49 rfl (lv_at hl 2 rfl) ?_
      refine va_get (D := D) (ci := 4) (v := .ref p8) (C := "WrongHole$Paths") (T := TX5) (N := 19) hx hb hts (iq_RX5 _) hown hK hP 0 rfl rfl 8 (by first | decide | omega) (hT _ qq_4_144) (fun _ h9 => h9) rfl dX5_link_50 ?_
      refine lv_iload hx hb dX5_link_53 (lv_at hl 0 rfl) ?_
      refine lv_iload_n hx hb dX5_link_55 rfl (lv_at hl 3 rfl) ?_
      have hi_31 : vp_in x_5 L := Rg.in r_20 (by omega)
      refine va_iast hx hb hK hP hD hS 5 0 rfl rfl hi_31 dX5_link_56 (fun H locs hP hD hS => ?_)
      obtain ⟨g_32, ra_33, hP, hD⟩ : ∃ g_32 : Nat → Int32, (∀ j, j < L → Rg (-1) ((L : Int) - 1) (g_32 j)) ∧ va_P D vwCl [(hh, .inr (4, [.ref ha, .ref po, .ref pr_, .ref pa, .ref pf, .ref p5, .ref p6, .ref p7, .ref p8, .int zs, .int zw, .ref hl0, .int zo, .int zr, .int zc, .int zl, .int zm, .int zn, .int zf])), (pf, .inl ((cs 0), 64, .inl gf)), (p5, .inl ((cs 0), L, .inl g_9)), (p6, .inl ((cs 0), L, .inl g_11)), (p7, .inl ((cs 0), L, .inl g_13)), (p8, .inl ((cs 0), L, .inl g_32))] H ∧ va_D A [(hh, .inr (4, [.ref ha, .ref po, .ref pr_, .ref pa, .ref pf, .ref p5, .ref p6, .ref p7, .ref p8, .int zs, .int zw, .ref hl0, .int zo, .int zr, .int zc, .int zl, .int zm, .int zn, .int zf])), (pf, .inl ((cs 0), 64, .inl gf)), (p5, .inl ((cs 0), L, .inl g_9)), (p6, .inl ((cs 0), L, .inl g_11)), (p7, .inl ((cs 0), L, .inl g_13)), (p8, .inl ((cs 0), L, .inl g_32))] := ⟨_, ar_upd ra_17 (Rg.wk (lo2 := (-1)) (hi2 := ((L : Int) - 1)) r_x (by first | decide | omega)), hP, hD⟩
      exact hj_24 g_32 _ _ _ ⟨ra_33, hP, hD, hS, lv_sub hl [0, 1, 2, 3, 4, 5] rfl⟩
theorem dX5_unlink_0 : decode cX5_unlink 0 = .ok (.aload_n 0, 1) := by decide +kernel
theorem dX5_unlink_1 : decode cX5_unlink 1 = .ok (.getfield 30, 3) := by decide +kernel
theorem dX5_unlink_4 : decode cX5_unlink 4 = .ok (.iload_n 1, 1) := by decide +kernel
theorem dX5_unlink_5 : decode cX5_unlink 5 = .ok (.iaload, 1) := by decide +kernel
theorem dX5_unlink_6 : decode cX5_unlink 6 = .ok (.istore_n 2, 1) := by decide +kernel
theorem dX5_unlink_7 : decode cX5_unlink 7 = .ok (.aload_n 0, 1) := by decide +kernel
theorem dX5_unlink_8 : decode cX5_unlink 8 = .ok (.getfield 33, 3) := by decide +kernel
theorem dX5_unlink_11 : decode cX5_unlink 11 = .ok (.iload_n 1, 1) := by decide +kernel
theorem dX5_unlink_12 : decode cX5_unlink 12 = .ok (.iaload, 1) := by decide +kernel
theorem dX5_unlink_13 : decode cX5_unlink 13 = .ok (.istore_n 3, 1) := by decide +kernel
theorem dX5_unlink_14 : decode cX5_unlink 14 = .ok (.iload_n 3, 1) := by decide +kernel
theorem dX5_unlink_15 : decode cX5_unlink 15 = .ok (.ifCond .lt 13, 3) := by decide +kernel
theorem dX5_unlink_43 : decode cX5_unlink 43 = .ok (.iload_n 2, 1) := by decide +kernel
theorem dX5_unlink_44 : decode cX5_unlink 44 = .ok (.ifCond .lt 10, 3) := by decide +kernel
theorem dX5_unlink_54 : decode cX5_unlink 54 = .ok (.aload_n 0, 1) := by decide +kernel
theorem dX5_unlink_55 : decode cX5_unlink 55 = .ok (.dup, 1) := by decide +kernel
theorem dX5_unlink_56 : decode cX5_unlink 56 = .ok (.getfield 123, 3) := by decide +kernel
theorem dX5_unlink_59 : decode cX5_unlink 59 = .ok (.iconst 1, 1) := by decide +kernel
theorem dX5_unlink_60 : decode cX5_unlink 60 = .ok (.isub, 1) := by decide +kernel
theorem dX5_unlink_61 : decode cX5_unlink 61 = .ok (.putfield 123, 3) := by decide +kernel
theorem dX5_unlink_64 : decode cX5_unlink 64 = .ok (.return_, 1) := by decide +kernel
theorem dX5_unlink_47 : decode cX5_unlink 47 = .ok (.aload_n 0, 1) := by decide +kernel
theorem dX5_unlink_48 : decode cX5_unlink 48 = .ok (.getfield 33, 3) := by decide +kernel
theorem dX5_unlink_51 : decode cX5_unlink 51 = .ok (.iload_n 2, 1) := by decide +kernel
theorem dX5_unlink_52 : decode cX5_unlink 52 = .ok (.iload_n 3, 1) := by decide +kernel
theorem dX5_unlink_53 : decode cX5_unlink 53 = .ok (.iastore, 1) := by decide +kernel
theorem dX5_unlink_28 : decode cX5_unlink 28 = .ok (.aload_n 0, 1) := by decide +kernel
theorem dX5_unlink_29 : decode cX5_unlink 29 = .ok (.getfield 21, 3) := by decide +kernel
theorem dX5_unlink_32 : decode cX5_unlink 32 = .ok (.aload_n 0, 1) := by decide +kernel
theorem dX5_unlink_33 : decode cX5_unlink 33 = .ok (.getfield 24, 3) := by decide +kernel
theorem dX5_unlink_36 : decode cX5_unlink 36 = .ok (.iload_n 1, 1) := by decide +kernel
theorem dX5_unlink_37 : decode cX5_unlink 37 = .ok (.iaload, 1) := by decide +kernel
theorem dX5_unlink_38 : decode cX5_unlink 38 = .ok (.bipush 63, 2) := by decide +kernel
theorem dX5_unlink_40 : decode cX5_unlink 40 = .ok (.iand, 1) := by decide +kernel
theorem dX5_unlink_41 : decode cX5_unlink 41 = .ok (.iload_n 2, 1) := by decide +kernel
theorem dX5_unlink_42 : decode cX5_unlink 42 = .ok (.iastore, 1) := by decide +kernel
theorem dX5_unlink_18 : decode cX5_unlink 18 = .ok (.aload_n 0, 1) := by decide +kernel
theorem dX5_unlink_19 : decode cX5_unlink 19 = .ok (.getfield 30, 3) := by decide +kernel
theorem dX5_unlink_22 : decode cX5_unlink 22 = .ok (.iload_n 3, 1) := by decide +kernel
theorem dX5_unlink_23 : decode cX5_unlink 23 = .ok (.iload_n 2, 1) := by decide +kernel
theorem dX5_unlink_24 : decode cX5_unlink 24 = .ok (.iastore, 1) := by decide +kernel
theorem dX5_unlink_25 : decode cX5_unlink 25 = .ok (.goto 18, 3) := by decide +kernel
set_option maxHeartbeats 4000000 in
set_option maxRecDepth 100000 in
theorem c_P_unlink (l : Launch) (D : va_G) (cs : Nat → ClassId) (X : XX) (sz : Nat) (hh : Nat) (ha : Nat) (po : Nat) (pr_ : Nat) (pa : Nat) (pf : Nat) (p5 : Nat) (p6 : Nat) (p7 : Nat) (p8 : Nat) (zs : Int32) (zw : Int32) (zo : Int32) (zr : Int32) (zc : Int32) (zl : Int32) (zm : Int32) (zn : Int32) (zf : Int32) (hl0 : Nat) (L : Nat) (gf : Nat → Int32) (g5 : Nat → Int32) (g7 : Nat → Int32) (g8 : Nat → Int32) (x : Int32) (hL : L ≤ 65536) (r_x : Rg 0 ((L : Int) - 1) x) (a_gf : ∀ j, j < 64 → Rg (-1) ((L : Int) - 1) (gf j)) (a_g7 : ∀ j, j < L → Rg (-1) ((L : Int) - 1) (g7 j)) (a_g8 : ∀ j, j < L → Rg (-1) ((L : Int) - 1) (g8 j)) : Met l yX5_unlink (Cond.code yX5_unlink cX5_unlink 4 none :: TB) (RM 0 0 0) (va_Pc [.ref hh, .int x] (PRE D cs X [(hh, .inr (4, [.ref ha, .ref po, .ref pr_, .ref pa, .ref pf, .ref p5, .ref p6, .ref p7, .ref p8, .int zs, .int zw, .ref hl0, .int zo, .int zr, .int zc, .int zl, .int zm, .int zn, .int zf])), (pf, .inl ((cs 0), 64, .inl gf)), (p5, .inl ((cs 0), L, .inl g5)), (p7, .inl ((cs 0), L, .inl g7)), (p8, .inl ((cs 0), L, .inl g8))] [] sz)) (va_Qv (S := Unit) (fun _ => True) (fun _ t => ∃ (zw2 : Int32), ∃ (gfn : Nat → Int32), ∃ (g7n : Nat → Int32), ∃ (g8n : Nat → Int32), (∀ j, j < 64 → Rg (-1) ((L : Int) - 1) (gfn j)) ∧ (∀ j, j < L → Rg (-1) ((L : Int) - 1) (g7n j)) ∧ (∀ j, j < L → Rg (-1) ((L : Int) - 1) (g8n j)) ∧ va_P D vwCl [(hh, .inr (4, [.ref ha, .ref po, .ref pr_, .ref pa, .ref pf, .ref p5, .ref p6, .ref p7, .ref p8, .int zs, .int zw2, .ref hl0, .int zo, .int zr, .int zc, .int zl, .int zm, .int zn, .int zf])), (pf, .inl ((cs 0), 64, .inl gfn)), (p5, .inl ((cs 0), L, .inl g5)), (p7, .inl ((cs 0), L, .inl g7n)), (p8, .inl ((cs 0), L, .inl g8n))] t.heap ∧ va_D (va_A [(hh, .inr (4, [.ref ha, .ref po, .ref pr_, .ref pa, .ref pf, .ref p5, .ref p6, .ref p7, .ref p8, .int zs, .int zw, .ref hl0, .int zo, .int zr, .int zc, .int zl, .int zm, .int zn, .int zf])), (pf, .inl ((cs 0), 64, .inl gf)), (p5, .inl ((cs 0), L, .inl g5)), (p7, .inl ((cs 0), L, .inl g7)), (p8, .inl ((cs 0), L, .inl g8))] sz) [(hh, .inr (4, [.ref ha, .ref po, .ref pr_, .ref pa, .ref pf, .ref p5, .ref p6, .ref p7, .ref p8, .int zs, .int zw2, .ref hl0, .int zo, .int zr, .int zc, .int zl, .int zm, .int zn, .int zf])), (pf, .inl ((cs 0), 64, .inl gfn)), (p5, .inl ((cs 0), L, .inl g5)), (p7, .inl ((cs 0), L, .inl g7n)), (p8, .inl ((cs 0), L, .inl g8n))]) (va_A [(hh, .inr (4, [.ref ha, .ref po, .ref pr_, .ref pa, .ref pf, .ref p5, .ref p6, .ref p7, .ref p8, .int zs, .int zw, .ref hl0, .int zo, .int zr, .int zc, .int zl, .int zm, .int zn, .int zf])), (pf, .inl ((cs 0), 64, .inl gf)), (p5, .inl ((cs 0), L, .inl g5)), (p7, .inl ((cs 0), L, .inl g7)), (p8, .inl ((cs 0), L, .inl g8))] sz)) 0 0 (va_A [(hh, .inr (4, [.ref ha, .ref po, .ref pr_, .ref pa, .ref pf, .ref p5, .ref p6, .ref p7, .ref p8, .int zs, .int zw, .ref hl0, .int zo, .int zr, .int zc, .int zl, .int zm, .int zn, .int zf])), (pf, .inl ((cs 0), 64, .inl gf)), (p5, .inl ((cs 0), L, .inl g5)), (p7, .inl ((cs 0), L, .inl g7)), (p8, .inl ((cs 0), L, .inl g8))] sz) := by
  refine MET (y := yX5_unlink) (cc := cX5_unlink) (maxL := 4) (ret := none) (d := 0) (mc := 0) (ms := 0) (D := D) (cs := cs) (X := X) (ws := [(hh, .inr (4, [.ref ha, .ref po, .ref pr_, .ref pa, .ref pf, .ref p5, .ref p6, .ref p7, .ref p8, .int zs, .int zw, .ref hl0, .int zo, .int zr, .int zc, .int zl, .int zm, .int zn, .int zf])), (pf, .inl ((cs 0), 64, .inl gf)), (p5, .inl ((cs 0), L, .inl g5)), (p7, .inl ((cs 0), L, .inl g7)), (p8, .inl ((cs 0), L, .inl g8))]) (wo := []) (sz := sz) (av := [.ref hh, .int x]) (Qc := fun A => va_Qv (S := Unit) (fun _ => True) (fun _ t => ∃ (zw2 : Int32), ∃ (gfn : Nat → Int32), ∃ (g7n : Nat → Int32), ∃ (g8n : Nat → Int32), (∀ j, j < 64 → Rg (-1) ((L : Int) - 1) (gfn j)) ∧ (∀ j, j < L → Rg (-1) ((L : Int) - 1) (g7n j)) ∧ (∀ j, j < L → Rg (-1) ((L : Int) - 1) (g8n j)) ∧ va_P D vwCl [(hh, .inr (4, [.ref ha, .ref po, .ref pr_, .ref pa, .ref pf, .ref p5, .ref p6, .ref p7, .ref p8, .int zs, .int zw2, .ref hl0, .int zo, .int zr, .int zc, .int zl, .int zm, .int zn, .int zf])), (pf, .inl ((cs 0), 64, .inl gfn)), (p5, .inl ((cs 0), L, .inl g5)), (p7, .inl ((cs 0), L, .inl g7n)), (p8, .inl ((cs 0), L, .inl g8n))] t.heap ∧ va_D A [(hh, .inr (4, [.ref ha, .ref po, .ref pr_, .ref pa, .ref pf, .ref p5, .ref p6, .ref p7, .ref p8, .int zs, .int zw2, .ref hl0, .int zo, .int zr, .int zc, .int zl, .int zm, .int zn, .int zf])), (pf, .inl ((cs 0), 64, .inl gfn)), (p5, .inl ((cs 0), L, .inl g5)), (p7, .inl ((cs 0), L, .inl g7n)), (p8, .inl ((cs 0), L, .inl g8n))]) A) (by decide) (Nat.le_of_ble_eq_true rfl) ?_
  intro p e s m below meth c ls A H hHe hx hb hr hml hown hts hlocks hnm hP hK hD hA hS hN hR hX hXs hl
  have hD : va_D A [(hh, .inr (4, [.ref ha, .ref po, .ref pr_, .ref pa, .ref pf, .ref p5, .ref p6, .ref p7, .ref p8, .int zs, .int zw, .ref hl0, .int zo, .int zr, .int zc, .int zl, .int zm, .int zn, .int zf])), (pf, .inl ((cs 0), 64, .inl gf)), (p5, .inl ((cs 0), L, .inl g5)), (p7, .inl ((cs 0), L, .inl g7)), (p8, .inl ((cs 0), L, .inl g8))] := hD
  obtain ⟨locs, hlc⟩ : ∃ z : List Loc, z = [] := ⟨_, rfl⟩
  rw [← hlc] at hS ⊢
  have hown : s.vm.findClass "WrongHole$Paths" = some m.cls := hown
  have hT : ∀ w ∈ TB, w.before ([.ref hh, .int x] : List Value).toArray s = true := fun w h => hts w (List.mem_cons_of_mem _ h)
  have hl : lv_has ls 4 [(0, .ref hh), (1, .int x)] := hl
  have hP : va_P D vwCl [(hh, .inr (4, [.ref ha, .ref po, .ref pr_, .ref pa, .ref pf, .ref p5, .ref p6, .ref p7, .ref p8, .int zs, .int zw, .ref hl0, .int zo, .int zr, .int zc, .int zl, .int zm, .int zn, .int zf])), (pf, .inl ((cs 0), 64, .inl gf)), (p5, .inl ((cs 0), L, .inl g5)), (p7, .inl ((cs 0), L, .inl g7)), (p8, .inl ((cs 0), L, .inl g8))] H := hP
  refine lv_aload_n hx hb dX5_unlink_0 rfl (lv_at hl 0 rfl) ?_
  refine va_get (D := D) (ci := 4) (v := .ref p7) (C := "WrongHole$Paths") (T := TX5) (N := 19) hx hb hts (iq_RX5 _) hown hK hP 0 rfl rfl 7 (by first | decide | omega) (hT _ qq_4_143) (fun _ h9 => h9) rfl dX5_unlink_1 ?_
  refine lv_iload_n hx hb dX5_unlink_4 rfl (lv_at hl 1 rfl) ?_
  have hi_1 : vp_in x L := Rg.in r_x (by omega)
  refine va_iald hx hb hK hP 3 0 rfl rfl hi_1 dX5_unlink_5 ?_
  refine lv_topi (fun x_2 e_3 => ?_)
  have r_4 : Rg (-1) ((L : Int) - 1) x_2 := Rg.of e_3 (a_g7 _ (in_lt hi_1))
  refine lv_istore_n (lv' := [(2, .int x_2), (0, .ref hh), (1, .int x)]) hx hb dX5_unlink_6 rfl hl (by first | decide | omega) rfl (fun ls hl => ?_)
  refine lv_aload_n hx hb dX5_unlink_7 rfl (lv_at hl 1 rfl) ?_
  refine va_get (D := D) (ci := 4) (v := .ref p8) (C := "WrongHole$Paths") (T := TX5) (N := 19) hx hb hts (iq_RX5 _) hown hK hP 0 rfl rfl 8 (by first | decide | omega) (hT _ qq_4_144) (fun _ h9 => h9) rfl dX5_unlink_8 ?_
  refine lv_iload_n hx hb dX5_unlink_11 rfl (lv_at hl 2 rfl) ?_
  have hi_5 : vp_in x L := Rg.in r_x (by omega)
  refine va_iald hx hb hK hP 4 0 rfl rfl hi_5 dX5_unlink_12 ?_
  refine lv_topi (fun x_6 e_7 => ?_)
  have r_8 : Rg (-1) ((L : Int) - 1) x_6 := Rg.of e_7 (a_g8 _ (in_lt hi_5))
  refine lv_istore_n (lv' := [(3, .int x_6), (2, .int x_2), (0, .ref hh), (1, .int x)]) hx hb dX5_unlink_13 rfl hl (by first | decide | omega) rfl (fun ls hl => ?_)
  refine lv_iload_n hx hb dX5_unlink_14 rfl (lv_at hl 0 rfl) ?_
  refine w_cut (σ := (Nat → Int32) × (Nat → Int32)) (fun x9 H locs ls => match x9 with | (g_21, g_22) => (∀ j, j < 64 → Rg (-1) ((L : Int) - 1) (g_21 j)) ∧ (∀ j, j < L → Rg (-1) ((L : Int) - 1) (g_22 j)) ∧ va_P D vwCl [(hh, .inr (4, [.ref ha, .ref po, .ref pr_, .ref pa, .ref pf, .ref p5, .ref p6, .ref p7, .ref p8, .int zs, .int zw, .ref hl0, .int zo, .int zr, .int zc, .int zl, .int zm, .int zn, .int zf])), (pf, .inl ((cs 0), 64, .inl g_21)), (p5, .inl ((cs 0), L, .inl g5)), (p7, .inl ((cs 0), L, .inl g_22)), (p8, .inl ((cs 0), L, .inl g8))] H ∧ va_D A [(hh, .inr (4, [.ref ha, .ref po, .ref pr_, .ref pa, .ref pf, .ref p5, .ref p6, .ref p7, .ref p8, .int zs, .int zw, .ref hl0, .int zo, .int zr, .int zc, .int zl, .int zm, .int zn, .int zf])), (pf, .inl ((cs 0), 64, .inl g_21)), (p5, .inl ((cs 0), L, .inl g5)), (p7, .inl ((cs 0), L, .inl g_22)), (p8, .inl ((cs 0), L, .inl g8))] ∧ va_S A s.heap H locs ∧ lv_has ls 4 [(3, .int x_6), (2, .int x_2), (0, .ref hh), (1, .int x)]) 43 (fun x9 => match x9 with | (g_21, g_22) => []) ?_ (fun hj_23 => ?_)
  · rintro ⟨g_21, g_22⟩ H locs ls ⟨ra_24, ra_25, hP, hD, hS, hl⟩
    refine lv_iload_n hx hb dX5_unlink_43 rfl (lv_at hl 1 rfl) ?_
    refine w_cut (σ := (Nat → Int32)) (fun (g_31 : Nat → Int32) H locs ls => (∀ j, j < L → Rg (-1) ((L : Int) - 1) (g_31 j)) ∧ va_P D vwCl [(hh, .inr (4, [.ref ha, .ref po, .ref pr_, .ref pa, .ref pf, .ref p5, .ref p6, .ref p7, .ref p8, .int zs, .int zw, .ref hl0, .int zo, .int zr, .int zc, .int zl, .int zm, .int zn, .int zf])), (pf, .inl ((cs 0), 64, .inl g_21)), (p5, .inl ((cs 0), L, .inl g5)), (p7, .inl ((cs 0), L, .inl g_22)), (p8, .inl ((cs 0), L, .inl g_31))] H ∧ va_D A [(hh, .inr (4, [.ref ha, .ref po, .ref pr_, .ref pa, .ref pf, .ref p5, .ref p6, .ref p7, .ref p8, .int zs, .int zw, .ref hl0, .int zo, .int zr, .int zc, .int zl, .int zm, .int zn, .int zf])), (pf, .inl ((cs 0), 64, .inl g_21)), (p5, .inl ((cs 0), L, .inl g5)), (p7, .inl ((cs 0), L, .inl g_22)), (p8, .inl ((cs 0), L, .inl g_31))] ∧ va_S A s.heap H locs ∧ lv_has ls 4 [(3, .int x_6), (2, .int x_2), (0, .ref hh), (1, .int x)]) 54 (fun (g_31 : Nat → Int32) => []) ?_ (fun hj_32 => ?_)
    · rintro g_31 H locs ls ⟨ra_33, hP, hD, hS, hl⟩
      refine lv_aload_n hx hb dX5_unlink_54 rfl (lv_at hl 2 rfl) ?_
      refine lv_dup hx hb dX5_unlink_55 rfl ?_
      refine va_get (D := D) (ci := 4) (v := .int zw) (C := "WrongHole$Paths") (T := TX5) (N := 19) hx hb hts (iq_RX5 _) hown hK hP 0 rfl rfl 10 (by first | decide | omega) (hT _ qq_4_146) (fun _ h9 => h9) rfl dX5_unlink_56 ?_
      refine lv_iconst (v := 1) hx hb dX5_unlink_59 (by first | decide | omega) ?_
      refine lv_isub hx hb dX5_unlink_60 ?_
      refine lv_topi (fun x_34 e_35 => ?_)
      refine va_put (D := D) (ci := 4) (v := .int x_34) (ty := .int) (C := "WrongHole$Paths") (T := TX5) (N := 19) hx hb hts (iq_RX5 _) tyX5 tyX5_ok nmX5 hown hK hP hD hS 0 rfl rfl 10 (by first | decide | omega) (hT _ qq_4_146) (fun _ h9 => h9) rfl (by decide +kernel) rfl rfl (Nat.le_of_ble_eq_true rfl) dX5_unlink_61 (fun H locs hP hD hS => ?_)
      have hP : va_P D vwCl [(hh, .inr (4, [.ref ha, .ref po, .ref pr_, .ref pa, .ref pf, .ref p5, .ref p6, .ref p7, .ref p8, .int zs, .int x_34, .ref hl0, .int zo, .int zr, .int zc, .int zl, .int zm, .int zn, .int zf])), (pf, .inl ((cs 0), 64, .inl g_21)), (p5, .inl ((cs 0), L, .inl g5)), (p7, .inl ((cs 0), L, .inl g_22)), (p8, .inl ((cs 0), L, .inl g_31))] H := hP
      have hD : va_D A [(hh, .inr (4, [.ref ha, .ref po, .ref pr_, .ref pa, .ref pf, .ref p5, .ref p6, .ref p7, .ref p8, .int zs, .int x_34, .ref hl0, .int zo, .int zr, .int zc, .int zl, .int zm, .int zn, .int zf])), (pf, .inl ((cs 0), 64, .inl g_21)), (p5, .inl ((cs 0), L, .inl g5)), (p7, .inl ((cs 0), L, .inl g_22)), (p8, .inl ((cs 0), L, .inl g_31))] := hD
      refine W.widen (k := 0) (n := 0) (Nat.le_of_ble_eq_true rfl) (Nat.le_of_ble_eq_true rfl) ?_
      have hP9 := hP.sub (ws' := [(hh, .inr (4, [.ref ha, .ref po, .ref pr_, .ref pa, .ref pf, .ref p5, .ref p6, .ref p7, .ref p8, .int zs, .int x_34, .ref hl0, .int zo, .int zr, .int zc, .int zl, .int zm, .int zn, .int zf])), (pf, .inl ((cs 0), 64, .inl g_21)), (p5, .inl ((cs 0), L, .inl g5)), (p7, .inl ((cs 0), L, .inl g_22)), (p8, .inl ((cs 0), L, .inl g_31))]) [0, 1, 2, 3, 4] rfl
      have hD9 := hD.sub (ws' := [(hh, .inr (4, [.ref ha, .ref po, .ref pr_, .ref pa, .ref pf, .ref p5, .ref p6, .ref p7, .ref p8, .int zs, .int x_34, .ref hl0, .int zo, .int zr, .int zc, .int zl, .int zm, .int zn, .int zf])), (pf, .inl ((cs 0), 64, .inl g_21)), (p5, .inl ((cs 0), L, .inl g5)), (p7, .inl ((cs 0), L, .inl g_22)), (p8, .inl ((cs 0), L, .inl g_31))]) [0, 1, 2, 3, 4] (by first | decide | omega) rfl
      exact W.vret hx hb hr (fun t9 ht9 hW9 => ⟨⟨(), rfl, trivial, ⟨x_34, g_21, g_22, g_31, ra_24, ra_25, ra_33, by rw [ht9]; exact hP9, hD9⟩⟩, hS.F ht9⟩) hS.2.2 dX5_unlink_64
    · refine lv_if_lt (tgt := 54) hx hb dX5_unlink_44 (by first | decide | omega) (fun c_26 => ?_) (fun c_26 => ?_)
      · have r_27 : Rg (-1) (-1) x_2 := Rg.lt_l c_26 r_4 (Rg.c (c := 0) (k := 0) rfl) (by first | decide | omega)
        exact hj_32 g8 _ _ _ ⟨a_g8, hP, hD, hS, lv_sub hl [0, 1, 2, 3] rfl⟩
      · have r_28 : Rg 0 ((L : Int) - 1) x_2 := Rg.le_r (nlt_le c_26) (Rg.c (c := 0) (k := 0) rfl) r_4 (by first | decide | omega)
        refine lv_aload_n hx hb dX5_unlink_47 rfl (lv_at hl 2 rfl) ?_
        refine va_get (D := D) (ci := 4) (v := .ref p8) (C := "WrongHole$Paths") (T := TX5) (N := 19) hx hb hts (iq_RX5 _) hown hK hP 0 rfl rfl 8 (by first | decide | omega) (hT _ qq_4_144) (fun _ h9 => h9) rfl dX5_unlink_48 ?_
        refine lv_iload_n hx hb dX5_unlink_51 rfl (lv_at hl 1 rfl) ?_
        refine lv_iload_n hx hb dX5_unlink_52 rfl (lv_at hl 0 rfl) ?_
        have hi_36 : vp_in x_2 L := Rg.in r_28 (by omega)
        refine va_iast hx hb hK hP hD hS 4 0 rfl rfl hi_36 dX5_unlink_53 (fun H locs hP hD hS => ?_)
        obtain ⟨g_37, ra_38, hP, hD⟩ : ∃ g_37 : Nat → Int32, (∀ j, j < L → Rg (-1) ((L : Int) - 1) (g_37 j)) ∧ va_P D vwCl [(hh, .inr (4, [.ref ha, .ref po, .ref pr_, .ref pa, .ref pf, .ref p5, .ref p6, .ref p7, .ref p8, .int zs, .int zw, .ref hl0, .int zo, .int zr, .int zc, .int zl, .int zm, .int zn, .int zf])), (pf, .inl ((cs 0), 64, .inl g_21)), (p5, .inl ((cs 0), L, .inl g5)), (p7, .inl ((cs 0), L, .inl g_22)), (p8, .inl ((cs 0), L, .inl g_37))] H ∧ va_D A [(hh, .inr (4, [.ref ha, .ref po, .ref pr_, .ref pa, .ref pf, .ref p5, .ref p6, .ref p7, .ref p8, .int zs, .int zw, .ref hl0, .int zo, .int zr, .int zc, .int zl, .int zm, .int zn, .int zf])), (pf, .inl ((cs 0), 64, .inl g_21)), (p5, .inl ((cs 0), L, .inl g5)), (p7, .inl ((cs 0), L, .inl g_22)), (p8, .inl ((cs 0), L, .inl g_37))] := ⟨_, ar_upd a_g8 r_8, hP, hD⟩
        exact hj_32 g_37 _ _ _ ⟨ra_38, hP, hD, hS, lv_sub hl [0, 1, 2, 3] rfl⟩
  · refine lv_if_lt (tgt := 28) hx hb dX5_unlink_15 (by first | decide | omega) (fun c_9 => ?_) (fun c_9 => ?_)
    · have r_10 : Rg (-1) (-1) x_6 := Rg.lt_l c_9 r_8 (Rg.c (c := 0) (k := 0) rfl) (by first | decide | omega)
      refine lv_aload_n hx hb dX5_unlink_28 rfl (lv_at hl 2 rfl) ?_
      refine va_get (D := D) (ci := 4) (v := .ref pf) (C := "WrongHole$Paths") (T := TX5) (N := 19) hx hb hts (iq_RX5 _) hown hK hP 0 rfl rfl 4 (by first | decide | omega) (hT _ qq_4_140) (fun _ h9 => h9) rfl dX5_unlink_29 ?_
      refine lv_aload_n hx hb dX5_unlink_32 rfl (lv_at hl 2 rfl) ?_
      refine va_get (D := D) (ci := 4) (v := .ref p5) (C := "WrongHole$Paths") (T := TX5) (N := 19) hx hb hts (iq_RX5 _) hown hK hP 0 rfl rfl 5 (by first | decide | omega) (hT _ qq_4_141) (fun _ h9 => h9) rfl dX5_unlink_33 ?_
      refine lv_iload_n hx hb dX5_unlink_36 rfl (lv_at hl 3 rfl) ?_
      have hi_39 : vp_in x L := Rg.in r_x (by omega)
      refine va_iald hx hb hK hP 2 0 rfl rfl hi_39 dX5_unlink_37 ?_
      refine lv_topi (fun x_40 e_41 => ?_)
      refine lv_bipush (v := 63) hx hb dX5_unlink_38 (by first | decide | omega) ?_
      refine lv_iand hx hb dX5_unlink_40 ?_
      refine lv_topi (fun x_42 e_43 => ?_)
      have r_44 : Rg 0 63 x_42 := Rg.and e_43 (Rg.c (c := 63) (k := 63) rfl) (by first | decide | omega)
      refine lv_iload_n hx hb dX5_unlink_41 rfl (lv_at hl 1 rfl) ?_
      have hi_45 : vp_in x_42 64 := Rg.in r_44 (by first | decide | omega)
      refine va_iast hx hb hK hP hD hS 1 0 rfl rfl hi_45 dX5_unlink_42 (fun H locs hP hD hS => ?_)
      obtain ⟨g_46, ra_47, hP, hD⟩ : ∃ g_46 : Nat → Int32, (∀ j, j < 64 → Rg (-1) ((L : Int) - 1) (g_46 j)) ∧ va_P D vwCl [(hh, .inr (4, [.ref ha, .ref po, .ref pr_, .ref pa, .ref pf, .ref p5, .ref p6, .ref p7, .ref p8, .int zs, .int zw, .ref hl0, .int zo, .int zr, .int zc, .int zl, .int zm, .int zn, .int zf])), (pf, .inl ((cs 0), 64, .inl g_46)), (p5, .inl ((cs 0), L, .inl g5)), (p7, .inl ((cs 0), L, .inl g7)), (p8, .inl ((cs 0), L, .inl g8))] H ∧ va_D A [(hh, .inr (4, [.ref ha, .ref po, .ref pr_, .ref pa, .ref pf, .ref p5, .ref p6, .ref p7, .ref p8, .int zs, .int zw, .ref hl0, .int zo, .int zr, .int zc, .int zl, .int zm, .int zn, .int zf])), (pf, .inl ((cs 0), 64, .inl g_46)), (p5, .inl ((cs 0), L, .inl g5)), (p7, .inl ((cs 0), L, .inl g7)), (p8, .inl ((cs 0), L, .inl g8))] := ⟨_, ar_upd a_gf r_4, hP, hD⟩
      exact hj_23 (g_46, g7) _ _ _ ⟨ra_47, a_g7, hP, hD, hS, lv_sub hl [0, 1, 2, 3] rfl⟩
    · have r_11 : Rg 0 ((L : Int) - 1) x_6 := Rg.le_r (nlt_le c_9) (Rg.c (c := 0) (k := 0) rfl) r_8 (by first | decide | omega)
      refine lv_aload_n hx hb dX5_unlink_18 rfl (lv_at hl 2 rfl) ?_
      refine va_get (D := D) (ci := 4) (v := .ref p7) (C := "WrongHole$Paths") (T := TX5) (N := 19) hx hb hts (iq_RX5 _) hown hK hP 0 rfl rfl 7 (by first | decide | omega) (hT _ qq_4_143) (fun _ h9 => h9) rfl dX5_unlink_19 ?_
      refine lv_iload_n hx hb dX5_unlink_22 rfl (lv_at hl 0 rfl) ?_
      refine lv_iload_n hx hb dX5_unlink_23 rfl (lv_at hl 1 rfl) ?_
      have hi_48 : vp_in x_6 L := Rg.in r_11 (by omega)
      refine va_iast hx hb hK hP hD hS 3 0 rfl rfl hi_48 dX5_unlink_24 (fun H locs hP hD hS => ?_)
      obtain ⟨g_49, ra_50, hP, hD⟩ : ∃ g_49 : Nat → Int32, (∀ j, j < L → Rg (-1) ((L : Int) - 1) (g_49 j)) ∧ va_P D vwCl [(hh, .inr (4, [.ref ha, .ref po, .ref pr_, .ref pa, .ref pf, .ref p5, .ref p6, .ref p7, .ref p8, .int zs, .int zw, .ref hl0, .int zo, .int zr, .int zc, .int zl, .int zm, .int zn, .int zf])), (pf, .inl ((cs 0), 64, .inl gf)), (p5, .inl ((cs 0), L, .inl g5)), (p7, .inl ((cs 0), L, .inl g_49)), (p8, .inl ((cs 0), L, .inl g8))] H ∧ va_D A [(hh, .inr (4, [.ref ha, .ref po, .ref pr_, .ref pa, .ref pf, .ref p5, .ref p6, .ref p7, .ref p8, .int zs, .int zw, .ref hl0, .int zo, .int zr, .int zc, .int zl, .int zm, .int zn, .int zf])), (pf, .inl ((cs 0), 64, .inl gf)), (p5, .inl ((cs 0), L, .inl g5)), (p7, .inl ((cs 0), L, .inl g_49)), (p8, .inl ((cs 0), L, .inl g8))] := ⟨_, ar_upd a_g7 r_4, hP, hD⟩
      refine lv_goto (tgt := 43) hx hb dX5_unlink_25 (by first | decide | omega) ?_
      exact hj_23 (gf, g_49) _ _ _ ⟨a_gf, ra_50, hP, hD, hS, lv_sub hl [0, 1, 2, 3] rfl⟩
