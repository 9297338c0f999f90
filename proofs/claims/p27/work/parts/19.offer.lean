theorem dX5_weigh_0 : decode cX5_weigh 0 = .ok (.iload_n 1, 1) := by decide +kernel
theorem dX5_weigh_1 : decode cX5_weigh 1 = .ok (.invokestatic 148, 3) := by decide +kernel
theorem qq_4_234 : Cond.methodLink "WrongHole$Paths" 148 yX6_right ∈ TB := mk_tb (ti_4 (List.mem_of_getElem? (i := 234) rfl)) rfl
theorem dX5_weigh_4 : decode cX5_weigh 4 = .ok (.istore_n 3, 1) := by decide +kernel
theorem dX5_weigh_5 : decode cX5_weigh 5 = .ok (.aload_n 0, 1) := by decide +kernel
theorem dX5_weigh_6 : decode cX5_weigh 6 = .ok (.getfield 40, 3) := by decide +kernel
theorem qq_4_147 : Cond.fieldLink "WrongHole$Paths" 40 "WrongHole$Paths" "lift" "LWrongHole$Lift;" ∈ TB := mk_tb (ti_4 (List.mem_of_getElem? (i := 147) rfl)) rfl
theorem dX5_weigh_9 : decode cX5_weigh 9 = .ok (.iload_n 3, 1) := by decide +kernel
theorem dX5_weigh_10 : decode cX5_weigh 10 = .ok (.invokevirtual 151, 3) := by decide +kernel
theorem qq_4_238 : Cond.code yX2_worthOf cX2_worthOf 4 (some .int) ∈ TB := mk_tb (ti_4 (List.mem_of_getElem? (i := 238) rfl)) rfl
theorem qq_4_235 : Cond.methodLink "WrongHole$Paths" 151 yX2_worthOf ∈ TB := mk_tb (ti_4 (List.mem_of_getElem? (i := 235) rfl)) rfl
theorem qq_4_236 : Cond.instanceMethod yX2_worthOf ∈ TB := mk_tb (ti_4 (List.mem_of_getElem? (i := 236) rfl)) rfl
theorem qq_4_237 : Cond.selects "WrongHole$Lift" yX2_worthOf yX2_worthOf ∈ TB := mk_tb (ti_4 (List.mem_of_getElem? (i := 237) rfl)) rfl
theorem dX5_weigh_13 : decode cX5_weigh 13 = .ok (.istore 4, 2) := by decide +kernel
theorem dX5_weigh_15 : decode cX5_weigh 15 = .ok (.iload 4, 2) := by decide +kernel
theorem dX5_weigh_17 : decode cX5_weigh 17 = .ok (.aload_n 0, 1) := by decide +kernel
theorem dX5_weigh_18 : decode cX5_weigh 18 = .ok (.getfield 78, 3) := by decide +kernel
theorem qq_4_152 : Cond.fieldLink "WrongHole$Paths" 78 "WrongHole$Paths" "mostWorth" "I" ∈ TB := mk_tb (ti_4 (List.mem_of_getElem? (i := 152) rfl)) rfl
theorem dX5_weigh_21 : decode cX5_weigh 21 = .ok (.if_icmp .ge 4, 3) := by decide +kernel
theorem dX5_weigh_25 : decode cX5_weigh 25 = .ok (.aload_n 0, 1) := by decide +kernel
theorem dX5_weigh_26 : decode cX5_weigh 26 = .ok (.getfield 40, 3) := by decide +kernel
theorem dX5_weigh_29 : decode cX5_weigh 29 = .ok (.iload_n 3, 1) := by decide +kernel
theorem dX5_weigh_30 : decode cX5_weigh 30 = .ok (.aload_n 0, 1) := by decide +kernel
theorem dX5_weigh_31 : decode cX5_weigh 31 = .ok (.getfield 75, 3) := by decide +kernel
theorem qq_4_150 : Cond.fieldLink "WrongHole$Paths" 75 "WrongHole$Paths" "clock" "I" ∈ TB := mk_tb (ti_4 (List.mem_of_getElem? (i := 150) rfl)) rfl
theorem dX5_weigh_34 : decode cX5_weigh 34 = .ok (.aload_n 0, 1) := by decide +kernel
theorem dX5_weigh_35 : decode cX5_weigh 35 = .ok (.getfield 53, 3) := by decide +kernel
theorem qq_4_151 : Cond.fieldLink "WrongHole$Paths" 53 "WrongHole$Paths" "limit" "I" ∈ TB := mk_tb (ti_4 (List.mem_of_getElem? (i := 151) rfl)) rfl
theorem dX5_weigh_38 : decode cX5_weigh 38 = .ok (.iadd, 1) := by decide +kernel
theorem dX5_weigh_39 : decode cX5_weigh 39 = .ok (.invokevirtual 154, 3) := by decide +kernel
theorem qq_3_229 : Cond.code yX2_shownTo cX2_shownTo 5 (some .int) ∈ TB := mk_tb (ti_3 (List.mem_of_getElem? (i := 229) rfl)) rfl
theorem qq_4_239 : Cond.methodLink "WrongHole$Paths" 154 yX2_shownTo ∈ TB := mk_tb (ti_4 (List.mem_of_getElem? (i := 239) rfl)) rfl
theorem qq_3_227 : Cond.instanceMethod yX2_shownTo ∈ TB := mk_tb (ti_3 (List.mem_of_getElem? (i := 227) rfl)) rfl
theorem qq_3_228 : Cond.selects "WrongHole$Lift" yX2_shownTo yX2_shownTo ∈ TB := mk_tb (ti_3 (List.mem_of_getElem? (i := 228) rfl)) rfl
theorem dX5_weigh_42 : decode cX5_weigh 42 = .ok (.istore 5, 2) := by decide +kernel
theorem dX5_weigh_44 : decode cX5_weigh 44 = .ok (.iload 4, 2) := by decide +kernel
theorem dX5_weigh_46 : decode cX5_weigh 46 = .ok (.aload_n 0, 1) := by decide +kernel
theorem dX5_weigh_47 : decode cX5_weigh 47 = .ok (.getfield 78, 3) := by decide +kernel
theorem dX5_weigh_50 : decode cX5_weigh 50 = .ok (.if_icmp .gt 12, 3) := by decide +kernel
theorem dX5_weigh_62 : decode cX5_weigh 62 = .ok (.aload_n 0, 1) := by decide +kernel
theorem dX5_weigh_63 : decode cX5_weigh 63 = .ok (.iload 4, 2) := by decide +kernel
theorem dX5_weigh_65 : decode cX5_weigh 65 = .ok (.putfield 78, 3) := by decide +kernel
theorem dX5_weigh_68 : decode cX5_weigh 68 = .ok (.aload_n 0, 1) := by decide +kernel
theorem dX5_weigh_69 : decode cX5_weigh 69 = .ok (.iload 5, 2) := by decide +kernel
theorem dX5_weigh_71 : decode cX5_weigh 71 = .ok (.putfield 157, 3) := by decide +kernel
theorem qq_4_154 : Cond.fieldLink "WrongHole$Paths" 157 "WrongHole$Paths" "leastShown" "I" ∈ TB := mk_tb (ti_4 (List.mem_of_getElem? (i := 154) rfl)) rfl
theorem dX5_weigh_74 : decode cX5_weigh 74 = .ok (.aload_n 0, 1) := by decide +kernel
theorem dX5_weigh_75 : decode cX5_weigh 75 = .ok (.iload_n 2, 1) := by decide +kernel
theorem dX5_weigh_76 : decode cX5_weigh 76 = .ok (.putfield 160, 3) := by decide +kernel
theorem qq_4_156 : Cond.fieldLink "WrongHole$Paths" 160 "WrongHole$Paths" "fewestSeconds" "I" ∈ TB := mk_tb (ti_4 (List.mem_of_getElem? (i := 156) rfl)) rfl
theorem dX5_weigh_79 : decode cX5_weigh 79 = .ok (.return_, 1) := by decide +kernel
theorem dX5_weigh_53 : decode cX5_weigh 53 = .ok (.iload 5, 2) := by decide +kernel
theorem dX5_weigh_55 : decode cX5_weigh 55 = .ok (.aload_n 0, 1) := by decide +kernel
theorem dX5_weigh_56 : decode cX5_weigh 56 = .ok (.getfield 157, 3) := by decide +kernel
theorem dX5_weigh_59 : decode cX5_weigh 59 = .ok (.if_icmp .ge 20, 3) := by decide +kernel
theorem dX5_weigh_24 : decode cX5_weigh 24 = .ok (.return_, 1) := by decide +kernel
set_option maxHeartbeats 4000000 in
set_option maxRecDepth 100000 in
theorem c_P_weigh (l : Launch) (D : va_G) (cs : Nat → ClassId) (X : XX) (sz : Nat) (hh : Nat) (ha : Nat) (po : Nat) (pr_ : Nat) (pa : Nat) (pf : Nat) (p5 : Nat) (p6 : Nat) (p7 : Nat) (p8 : Nat) (zs : Int32) (zw : Int32) (zo : Int32) (zr : Int32) (zc : Int32) (zl : Int32) (zm : Int32) (zn : Int32) (zf : Int32) (hl0 : Nat) (lb : Int32) (lh : Int32) (lg : Int32) (lw : Int32) (lv : Int32) (lbs : Int32) (lti : Int32) (lts : Int32) (le : Int32) (lk : Int32) (la : Int32) (l0 : Nat) (l1 : Nat) (l2 : Nat) (l3 : Nat) (l4 : Nat) (l5 : Nat) (l6 : Nat) (l7 : Nat) (f4 : Nat → Int32) (f6 : Nat → Int32) (f7 : Nat → Int32) (a : Int32) (b : Int32) (r_lb : Rg 0 8 lb) (r_lh : Rg 0 8 lh) (r_le : Rg 0 6 le) : Met l yX5_weigh (Cond.code yX5_weigh cX5_weigh 6 none :: TB) (RM 3 0 0) (va_Pc [.ref hh, .int a, .int b] (PRE D cs X [(hh, .inr (4, [.ref ha, .ref po, .ref pr_, .ref pa, .ref pf, .ref p5, .ref p6, .ref p7, .ref p8, .int zs, .int zw, .ref hl0, .int zo, .int zr, .int zc, .int zl, .int zm, .int zn, .int zf]))] [(hl0, .inr (2, [.int lb, .int lh, .int lg, .int lw, .int lv, .int lbs, .int lti, .int lts, .int le, .int lk, .int la, .ref l0, .ref l1, .ref l2, .ref l3, .ref l4, .ref l5, .ref l6, .ref l7])), (l4, .inl ((cs 0), 8, .inl f4)), (l6, .inl ((cs 0), 6, .inl f6)), (l7, .inl ((cs 0), 6, .inl f7))] sz)) (va_Qv (S := Unit) (fun _ => True) (fun _ t => ∃ (zm2 : Int32), ∃ (zn2 : Int32), ∃ (zf2 : Int32), va_P D vwCl [(hh, .inr (4, [.ref ha, .ref po, .ref pr_, .ref pa, .ref pf, .ref p5, .ref p6, .ref p7, .ref p8, .int zs, .int zw, .ref hl0, .int zo, .int zr, .int zc, .int zl, .int zm2, .int zn2, .int zf2]))] t.heap ∧ va_D (va_A [(hh, .inr (4, [.ref ha, .ref po, .ref pr_, .ref pa, .ref pf, .ref p5, .ref p6, .ref p7, .ref p8, .int zs, .int zw, .ref hl0, .int zo, .int zr, .int zc, .int zl, .int zm, .int zn, .int zf]))] sz) [(hh, .inr (4, [.ref ha, .ref po, .ref pr_, .ref pa, .ref pf, .ref p5, .ref p6, .ref p7, .ref p8, .int zs, .int zw, .ref hl0, .int zo, .int zr, .int zc, .int zl, .int zm2, .int zn2, .int zf2]))]) (va_A [(hh, .inr (4, [.ref ha, .ref po, .ref pr_, .ref pa, .ref pf, .ref p5, .ref p6, .ref p7, .ref p8, .int zs, .int zw, .ref hl0, .int zo, .int zr, .int zc, .int zl, .int zm, .int zn, .int zf]))] sz)) 0 0 (va_A [(hh, .inr (4, [.ref ha, .ref po, .ref pr_, .ref pa, .ref pf, .ref p5, .ref p6, .ref p7, .ref p8, .int zs, .int zw, .ref hl0, .int zo, .int zr, .int zc, .int zl, .int zm, .int zn, .int zf]))] sz) := by
  refine MET (y := yX5_weigh) (cc := cX5_weigh) (maxL := 6) (ret := none) (d := 3) (mc := 0) (ms := 0) (D := D) (cs := cs) (X := X) (ws := [(hh, .inr (4, [.ref ha, .ref po, .ref pr_, .ref pa, .ref pf, .ref p5, .ref p6, .ref p7, .ref p8, .int zs, .int zw, .ref hl0, .int zo, .int zr, .int zc, .int zl, .int zm, .int zn, .int zf]))]) (wo := [(hl0, .inr (2, [.int lb, .int lh, .int lg, .int lw, .int lv, .int lbs, .int lti, .int lts, .int le, .int lk, .int la, .ref l0, .ref l1, .ref l2, .ref l3, .ref l4, .ref l5, .ref l6, .ref l7])), (l4, .inl ((cs 0), 8, .inl f4)), (l6, .inl ((cs 0), 6, .inl f6)), (l7, .inl ((cs 0), 6, .inl f7))]) (sz := sz) (av := [.ref hh, .int a, .int b]) (Qc := fun A => va_Qv (S := Unit) (fun _ => True) (fun _ t => ∃ (zm2 : Int32), ∃ (zn2 : Int32), ∃ (zf2 : Int32), va_P D vwCl [(hh, .inr (4, [.ref ha, .ref po, .ref pr_, .ref pa, .ref pf, .ref p5, .ref p6, .ref p7, .ref p8, .int zs, .int zw, .ref hl0, .int zo, .int zr, .int zc, .int zl, .int zm2, .int zn2, .int zf2]))] t.heap ∧ va_D A [(hh, .inr (4, [.ref ha, .ref po, .ref pr_, .ref pa, .ref pf, .ref p5, .ref p6, .ref p7, .ref p8, .int zs, .int zw, .ref hl0, .int zo, .int zr, .int zc, .int zl, .int zm2, .int zn2, .int zf2]))]) A) (by decide) (Nat.le_of_ble_eq_true rfl) ?_
  intro p e s m below meth c ls A H hHe hx hb hr hml hown hts hlocks hnm hP hK hD hA hS hN hR hX hXs hl
  have hD : va_D A [(hh, .inr (4, [.ref ha, .ref po, .ref pr_, .ref pa, .ref pf, .ref p5, .ref p6, .ref p7, .ref p8, .int zs, .int zw, .ref hl0, .int zo, .int zr, .int zc, .int zl, .int zm, .int zn, .int zf]))] := hD
  have hPo := hR.at hS
  obtain ⟨locs, hlc⟩ : ∃ z : List Loc, z = [] := ⟨_, rfl⟩
  rw [← hlc] at hS ⊢
  have hown : s.vm.findClass "WrongHole$Paths" = some m.cls := hown
  have hT : ∀ w ∈ TB, w.before ([.ref hh, .int a, .int b] : List Value).toArray s = true := fun w h => hts w (List.mem_cons_of_mem _ h)
  have hl : lv_has ls 6 [(0, .ref hh), (1, .int a), (2, .int b)] := hl
  have hP : va_P D vwCl [(hh, .inr (4, [.ref ha, .ref po, .ref pr_, .ref pa, .ref pf, .ref p5, .ref p6, .ref p7, .ref p8, .int zs, .int zw, .ref hl0, .int zo, .int zr, .int zc, .int zl, .int zm, .int zn, .int zf]))] H := hP
  refine lv_iload_n hx hb dX5_weigh_0 rfl (lv_at hl 1 rfl) ?_
  have hPc := va_P.sub (ws' := []) hP [] rfl
  refine cl_P (W.runS (As := [.int a]) (rest := []) ⟨hx, hb, hml, hown, hts⟩ (c_Rows_right l D cs a) ⟨callB_of 1 hts (gd_C qq_3_205) rfl rfl rfl (hT _ qq_1_16) (hT _ qq_4_234) (by decide +kernel) (rm_R rfl rfl), (hT _ qq_3_204)⟩ (pq_S hPc hK hN) rfl rfl hl.1 rfl (lv_room (Nat.le_of_ble_eq_true rfl)) dX5_weigh_1 ⟨Nat.le_of_ble_eq_true rfl, Nat.le_of_ble_eq_true rfl⟩) (fun v9 hz_2 => ?_)
  obtain ⟨x_1, rfl⟩ := hz_2
  refine lv_istore_n (lv' := [(3, .int x_1), (0, .ref hh), (1, .int a), (2, .int b)]) hx hb dX5_weigh_4 rfl hl (by decide) rfl (fun ls hl => ?_)
  refine lv_aload_n hx hb dX5_weigh_5 rfl (lv_at hl 1 rfl) ?_
  refine va_get (D := D) (ci := 4) (v := .ref hl0) (C := "WrongHole$Paths") (T := TX5) (N := 19) hx hb hts (iq_RX5 _) hown hK hP 0 rfl rfl 11 (by decide) (hT _ qq_4_147) (fun _ h9 => h9) rfl dX5_weigh_6 ?_
  refine lv_iload_n hx hb dX5_weigh_9 rfl (lv_at hl 0 rfl) ?_
  have hPc := va_P.sub (ws' := [(hl0, .inr (2, [.int lb, .int lh, .int lg, .int lw, .int lv, .int lbs, .int lti, .int lts, .int le, .int lk, .int la, .ref l0, .ref l1, .ref l2, .ref l3, .ref l4, .ref l5, .ref l6, .ref l7])), (l4, .inl ((cs 0), 8, .inl f4))]) hPo [0, 1] rfl
  refine cl_P (W.runV (As := [.int x_1]) (rest := []) ⟨hx, hb, hml, hown, hts⟩ (c_Lift_worthOf l D cs hl0 lb lh lg lw lv lbs lti lts le lk la l0 l1 l2 l3 l4 l5 l6 l7 f4 x_1 r_lb r_lh r_le) ⟨callB_of 1 hts (gd_C qq_4_238) rfl rfl rfl (hT _ qq_1_11) (hT _ qq_4_235) (by decide +kernel) (rm_R rfl rfl), (hT _ qq_4_236), (hT _ qq_4_237)⟩ (pq_V hPc hK hN (ci := 2) (q0 := 0) rfl rfl) rfl rfl hl.1 rfl (lv_room (Nat.le_of_ble_eq_true rfl)) dX5_weigh_10 ⟨Nat.le_of_ble_eq_true rfl, Nat.le_of_ble_eq_true rfl⟩) (fun v9 hz_5 => ?_)
  obtain ⟨x_4, rfl⟩ := hz_5
  refine lv_istore (lv' := [(4, .int x_4), (3, .int x_1), (0, .ref hh), (1, .int a), (2, .int b)]) hx hb dX5_weigh_13 hl (by decide) rfl (fun ls hl => ?_)
  refine lv_iload hx hb dX5_weigh_15 (lv_at hl 0 rfl) ?_
  refine lv_aload_n hx hb dX5_weigh_17 rfl (lv_at hl 2 rfl) ?_
  refine va_get (D := D) (ci := 4) (v := .int zm) (C := "WrongHole$Paths") (T := TX5) (N := 19) hx hb hts (iq_RX5 _) hown hK hP 0 rfl rfl 16 (by decide) (hT _ qq_4_152) (fun _ h9 => h9) rfl dX5_weigh_18 ?_
  refine lv_icmp_ge (tgt := 25) hx hb dX5_weigh_21 (by decide) (fun c_7 => ?_) (fun c_7 => ?_)
  · refine lv_aload_n hx hb dX5_weigh_25 rfl (lv_at hl 2 rfl) ?_
    refine va_get (D := D) (ci := 4) (v := .ref hl0) (C := "WrongHole$Paths") (T := TX5) (N := 19) hx hb hts (iq_RX5 _) hown hK hP 0 rfl rfl 11 (by decide) (hT _ qq_4_147) (fun _ h9 => h9) rfl dX5_weigh_26 ?_
    refine lv_iload_n hx hb dX5_weigh_29 rfl (lv_at hl 1 rfl) ?_
    refine lv_aload_n hx hb dX5_weigh_30 rfl (lv_at hl 2 rfl) ?_
    refine va_get (D := D) (ci := 4) (v := .int zc) (C := "WrongHole$Paths") (T := TX5) (N := 19) hx hb hts (iq_RX5 _) hown hK hP 0 rfl rfl 14 (by decide) (hT _ qq_4_150) (fun _ h9 => h9) rfl dX5_weigh_31 ?_
    refine lv_aload_n hx hb dX5_weigh_34 rfl (lv_at hl 2 rfl) ?_
    refine va_get (D := D) (ci := 4) (v := .int zl) (C := "WrongHole$Paths") (T := TX5) (N := 19) hx hb hts (iq_RX5 _) hown hK hP 0 rfl rfl 15 (by decide) (hT _ qq_4_151) (fun _ h9 => h9) rfl dX5_weigh_35 ?_
    refine lv_iadd hx hb dX5_weigh_38 ?_
    refine lv_topi (fun x_10 e_11 => ?_)
    have hPc := va_P.sub (ws' := [(hl0, .inr (2, [.int lb, .int lh, .int lg, .int lw, .int lv, .int lbs, .int lti, .int lts, .int le, .int lk, .int la, .ref l0, .ref l1, .ref l2, .ref l3, .ref l4, .ref l5, .ref l6, .ref l7])), (l6, .inl ((cs 0), 6, .inl f6)), (l7, .inl ((cs 0), 6, .inl f7))]) hPo [0, 2, 3] rfl
    refine cl_P (W.runV (As := [.int x_1, .int x_10]) (rest := []) ⟨hx, hb, hml, hown, hts⟩ (c_Lift_shownTo l D cs hl0 lb lh lg lw lv lbs lti lts le lk la l0 l1 l2 l3 l4 l5 l6 l7 f6 f7 x_1 x_10 r_lb r_lh r_le) ⟨callB_of 2 hts (gd_C qq_3_229) rfl rfl rfl (hT _ qq_1_11) (hT _ qq_4_239) (by decide +kernel) (rm_R rfl rfl), (hT _ qq_3_227), (hT _ qq_3_228)⟩ (pq_V hPc hK hN (ci := 2) (q0 := 0) rfl rfl) rfl rfl hl.1 rfl (lv_room (Nat.le_of_ble_eq_true rfl)) dX5_weigh_39 ⟨Nat.le_of_ble_eq_true rfl, Nat.le_of_ble_eq_true rfl⟩) (fun v9 hz_13 => ?_)
    obtain ⟨x_12, rfl⟩ := hz_13
    refine lv_istore (lv' := [(5, .int x_12), (4, .int x_4), (3, .int x_1), (0, .ref hh), (1, .int a), (2, .int b)]) hx hb dX5_weigh_42 hl (by decide) rfl (fun ls hl => ?_)
    refine lv_iload hx hb dX5_weigh_44 (lv_at hl 1 rfl) ?_
    refine lv_aload_n hx hb dX5_weigh_46 rfl (lv_at hl 3 rfl) ?_
    refine va_get (D := D) (ci := 4) (v := .int zm) (C := "WrongHole$Paths") (T := TX5) (N := 19) hx hb hts (iq_RX5 _) hown hK hP 0 rfl rfl 16 (by decide) (hT _ qq_4_152) (fun _ h9 => h9) rfl dX5_weigh_47 ?_
    refine lv_icmp_gt (tgt := 62) hx hb dX5_weigh_50 (by decide) (fun c_15 => ?_) (fun c_15 => ?_)
    · have r_16 : Rg (-2147483648) 2147483646 zm := Rg.lt_l c_15 (Rg.top zm) (Rg.top x_4) (by decide)
      have r_17 : Rg (-2147483647) 2147483647 x_4 := Rg.lt_r c_15 (Rg.top zm) (Rg.top x_4) (by decide)
      refine lv_aload_n hx hb dX5_weigh_62 rfl (lv_at hl 3 rfl) ?_
      refine lv_iload hx hb dX5_weigh_63 (lv_at hl 1 rfl) ?_
      refine va_put (D := D) (ci := 4) (v := .int x_4) (ty := .int) (C := "WrongHole$Paths") (T := TX5) (N := 19) hx hb hts (iq_RX5 _) tyX5 tyX5_ok nmX5 hown hK hP hD hS 0 rfl rfl 16 (by decide) (hT _ qq_4_152) (fun _ h9 => h9) rfl (by decide +kernel) rfl rfl (Nat.le_of_ble_eq_true rfl) dX5_weigh_65 (fun H locs hP hD hS => ?_)
      have hP : va_P D vwCl [(hh, .inr (4, [.ref ha, .ref po, .ref pr_, .ref pa, .ref pf, .ref p5, .ref p6, .ref p7, .ref p8, .int zs, .int zw, .ref hl0, .int zo, .int zr, .int zc, .int zl, .int x_4, .int zn, .int zf]))] H := hP
      have hD : va_D A [(hh, .inr (4, [.ref ha, .ref po, .ref pr_, .ref pa, .ref pf, .ref p5, .ref p6, .ref p7, .ref p8, .int zs, .int zw, .ref hl0, .int zo, .int zr, .int zc, .int zl, .int x_4, .int zn, .int zf]))] := hD
      have hPo := hR.at hS
      refine lv_aload_n hx hb dX5_weigh_68 rfl (lv_at hl 3 rfl) ?_
      refine lv_iload hx hb dX5_weigh_69 (lv_at hl 0 rfl) ?_
      refine va_put (D := D) (ci := 4) (v := .int x_12) (ty := .int) (C := "WrongHole$Paths") (T := TX5) (N := 19) hx hb hts (iq_RX5 _) tyX5 tyX5_ok nmX5 hown hK hP hD hS 0 rfl rfl 17 (by decide) (hT _ qq_4_154) (fun _ h9 => h9) rfl (by decide +kernel) rfl rfl (Nat.le_of_ble_eq_true rfl) dX5_weigh_71 (fun H locs hP hD hS => ?_)
      have hP : va_P D vwCl [(hh, .inr (4, [.ref ha, .ref po, .ref pr_, .ref pa, .ref pf, .ref p5, .ref p6, .ref p7, .ref p8, .int zs, .int zw, .ref hl0, .int zo, .int zr, .int zc, .int zl, .int x_4, .int x_12, .int zf]))] H := hP
      have hD : va_D A [(hh, .inr (4, [.ref ha, .ref po, .ref pr_, .ref pa, .ref pf, .ref p5, .ref p6, .ref p7, .ref p8, .int zs, .int zw, .ref hl0, .int zo, .int zr, .int zc, .int zl, .int x_4, .int x_12, .int zf]))] := hD
      have hPo := hR.at hS
      refine lv_aload_n hx hb dX5_weigh_74 rfl (lv_at hl 3 rfl) ?_
      refine lv_iload_n hx hb dX5_weigh_75 rfl (lv_at hl 5 rfl) ?_
      refine va_put (D := D) (ci := 4) (v := .int b) (ty := .int) (C := "WrongHole$Paths") (T := TX5) (N := 19) hx hb hts (iq_RX5 _) tyX5 tyX5_ok nmX5 hown hK hP hD hS 0 rfl rfl 18 (by decide) (hT _ qq_4_156) (fun _ h9 => h9) rfl (by decide +kernel) rfl rfl (Nat.le_of_ble_eq_true rfl) dX5_weigh_76 (fun H locs hP hD hS => ?_)
      have hP : va_P D vwCl [(hh, .inr (4, [.ref ha, .ref po, .ref pr_, .ref pa, .ref pf, .ref p5, .ref p6, .ref p7, .ref p8, .int zs, .int zw, .ref hl0, .int zo, .int zr, .int zc, .int zl, .int x_4, .int x_12, .int b]))] H := hP
      have hD : va_D A [(hh, .inr (4, [.ref ha, .ref po, .ref pr_, .ref pa, .ref pf, .ref p5, .ref p6, .ref p7, .ref p8, .int zs, .int zw, .ref hl0, .int zo, .int zr, .int zc, .int zl, .int x_4, .int x_12, .int b]))] := hD
      have hPo := hR.at hS
      refine W.widen (k := 0) (n := 0) (Nat.le_of_ble_eq_true rfl) (Nat.le_of_ble_eq_true rfl) ?_
      have hP9 := hP.sub (ws' := [(hh, .inr (4, [.ref ha, .ref po, .ref pr_, .ref pa, .ref pf, .ref p5, .ref p6, .ref p7, .ref p8, .int zs, .int zw, .ref hl0, .int zo, .int zr, .int zc, .int zl, .int x_4, .int x_12, .int b]))]) [0] rfl
      have hD9 := hD.sub (ws' := [(hh, .inr (4, [.ref ha, .ref po, .ref pr_, .ref pa, .ref pf, .ref p5, .ref p6, .ref p7, .ref p8, .int zs, .int zw, .ref hl0, .int zo, .int zr, .int zc, .int zl, .int x_4, .int x_12, .int b]))]) [0] (by decide) rfl
      exact W.vret hx hb hr (fun t9 ht9 hW9 => ⟨⟨(), rfl, trivial, ⟨x_4, x_12, b, by rw [ht9]; exact hP9, hD9⟩⟩, hS.F ht9⟩) hS.2.2 dX5_weigh_79
    · refine lv_iload hx hb dX5_weigh_53 (lv_at hl 0 rfl) ?_
      refine lv_aload_n hx hb dX5_weigh_55 rfl (lv_at hl 3 rfl) ?_
      refine va_get (D := D) (ci := 4) (v := .int zn) (C := "WrongHole$Paths") (T := TX5) (N := 19) hx hb hts (iq_RX5 _) hown hK hP 0 rfl rfl 17 (by decide) (hT _ qq_4_154) (fun _ h9 => h9) rfl dX5_weigh_56 ?_
      refine lv_icmp_ge (tgt := 79) hx hb dX5_weigh_59 (by decide) (fun c_21 => ?_) (fun c_21 => ?_)
      · refine W.widen (k := 0) (n := 0) (Nat.le_of_ble_eq_true rfl) (Nat.le_of_ble_eq_true rfl) ?_
        have hP9 := hP.sub (ws' := [(hh, .inr (4, [.ref ha, .ref po, .ref pr_, .ref pa, .ref pf, .ref p5, .ref p6, .ref p7, .ref p8, .int zs, .int zw, .ref hl0, .int zo, .int zr, .int zc, .int zl, .int zm, .int zn, .int zf]))]) [0] rfl
        have hD9 := hD.sub (ws' := [(hh, .inr (4, [.ref ha, .ref po, .ref pr_, .ref pa, .ref pf, .ref p5, .ref p6, .ref p7, .ref p8, .int zs, .int zw, .ref hl0, .int zo, .int zr, .int zc, .int zl, .int zm, .int zn, .int zf]))]) [0] (by decide) rfl
        exact W.vret hx hb hr (fun t9 ht9 hW9 => ⟨⟨(), rfl, trivial, ⟨zm, zn, zf, by rw [ht9]; exact hP9, hD9⟩⟩, hS.F ht9⟩) hS.2.2 dX5_weigh_79
      · have r_22 : Rg (-2147483648) 2147483646 x_12 := Rg.lt_l (nle_lt c_21) (Rg.top x_12) (Rg.top zn) (by decide)
        have r_23 : Rg (-2147483647) 2147483647 zn := Rg.lt_r (nle_lt c_21) (Rg.top x_12) (Rg.top zn) (by decide)
        refine lv_aload_n hx hb dX5_weigh_62 rfl (lv_at hl 3 rfl) ?_
        refine lv_iload hx hb dX5_weigh_63 (lv_at hl 1 rfl) ?_
        refine va_put (D := D) (ci := 4) (v := .int x_4) (ty := .int) (C := "WrongHole$Paths") (T := TX5) (N := 19) hx hb hts (iq_RX5 _) tyX5 tyX5_ok nmX5 hown hK hP hD hS 0 rfl rfl 16 (by decide) (hT _ qq_4_152) (fun _ h9 => h9) rfl (by decide +kernel) rfl rfl (Nat.le_of_ble_eq_true rfl) dX5_weigh_65 (fun H locs hP hD hS => ?_)
        have hP : va_P D vwCl [(hh, .inr (4, [.ref ha, .ref po, .ref pr_, .ref pa, .ref pf, .ref p5, .ref p6, .ref p7, .ref p8, .int zs, .int zw, .ref hl0, .int zo, .int zr, .int zc, .int zl, .int x_4, .int zn, .int zf]))] H := hP
        have hD : va_D A [(hh, .inr (4, [.ref ha, .ref po, .ref pr_, .ref pa, .ref pf, .ref p5, .ref p6, .ref p7, .ref p8, .int zs, .int zw, .ref hl0, .int zo, .int zr, .int zc, .int zl, .int x_4, .int zn, .int zf]))] := hD
        have hPo := hR.at hS
        refine lv_aload_n hx hb dX5_weigh_68 rfl (lv_at hl 3 rfl) ?_
        refine lv_iload hx hb dX5_weigh_69 (lv_at hl 0 rfl) ?_
        refine va_put (D := D) (ci := 4) (v := .int x_12) (ty := .int) (C := "WrongHole$Paths") (T := TX5) (N := 19) hx hb hts (iq_RX5 _) tyX5 tyX5_ok nmX5 hown hK hP hD hS 0 rfl rfl 17 (by decide) (hT _ qq_4_154) (fun _ h9 => h9) rfl (by decide +kernel) rfl rfl (Nat.le_of_ble_eq_true rfl) dX5_weigh_71 (fun H locs hP hD hS => ?_)
        have hP : va_P D vwCl [(hh, .inr (4, [.ref ha, .ref po, .ref pr_, .ref pa, .ref pf, .ref p5, .ref p6, .ref p7, .ref p8, .int zs, .int zw, .ref hl0, .int zo, .int zr, .int zc, .int zl, .int x_4, .int x_12, .int zf]))] H := hP
        have hD : va_D A [(hh, .inr (4, [.ref ha, .ref po, .ref pr_, .ref pa, .ref pf, .ref p5, .ref p6, .ref p7, .ref p8, .int zs, .int zw, .ref hl0, .int zo, .int zr, .int zc, .int zl, .int x_4, .int x_12, .int zf]))] := hD
        have hPo := hR.at hS
        refine lv_aload_n hx hb dX5_weigh_74 rfl (lv_at hl 3 rfl) ?_
        refine lv_iload_n hx hb dX5_weigh_75 rfl (lv_at hl 5 rfl) ?_
        refine va_put (D := D) (ci := 4) (v := .int b) (ty := .int) (C := "WrongHole$Paths") (T := TX5) (N := 19) hx hb hts (iq_RX5 _) tyX5 tyX5_ok nmX5 hown hK hP hD hS 0 rfl rfl 18 (by decide) (hT _ qq_4_156) (fun _ h9 => h9) rfl (by decide +kernel) rfl rfl (Nat.le_of_ble_eq_true rfl) dX5_weigh_76 (fun H locs hP hD hS => ?_)
        have hP : va_P D vwCl [(hh, .inr (4, [.ref ha, .ref po, .ref pr_, .ref pa, .ref pf, .ref p5, .ref p6, .ref p7, .ref p8, .int zs, .int zw, .ref hl0, .int zo, .int zr, .int zc, .int zl, .int x_4, .int x_12, .int b]))] H := hP
        have hD : va_D A [(hh, .inr (4, [.ref ha, .ref po, .ref pr_, .ref pa, .ref pf, .ref p5, .ref p6, .ref p7, .ref p8, .int zs, .int zw, .ref hl0, .int zo, .int zr, .int zc, .int zl, .int x_4, .int x_12, .int b]))] := hD
        have hPo := hR.at hS
        refine W.widen (k := 0) (n := 0) (Nat.le_of_ble_eq_true rfl) (Nat.le_of_ble_eq_true rfl) ?_
        have hP9 := hP.sub (ws' := [(hh, .inr (4, [.ref ha, .ref po, .ref pr_, .ref pa, .ref pf, .ref p5, .ref p6, .ref p7, .ref p8, .int zs, .int zw, .ref hl0, .int zo, .int zr, .int zc, .int zl, .int x_4, .int x_12, .int b]))]) [0] rfl
        have hD9 := hD.sub (ws' := [(hh, .inr (4, [.ref ha, .ref po, .ref pr_, .ref pa, .ref pf, .ref p5, .ref p6, .ref p7, .ref p8, .int zs, .int zw, .ref hl0, .int zo, .int zr, .int zc, .int zl, .int x_4, .int x_12, .int b]))]) [0] (by decide) rfl
        exact W.vret hx hb hr (fun t9 ht9 hW9 => ⟨⟨(), rfl, trivial, ⟨x_4, x_12, b, by rw [ht9]; exact hP9, hD9⟩⟩, hS.F ht9⟩) hS.2.2 dX5_weigh_79
  · have r_8 : Rg (-2147483648) 2147483646 x_4 := Rg.lt_l (nle_lt c_7) (Rg.top x_4) (Rg.top zm) (by decide)
    have r_9 : Rg (-2147483647) 2147483647 zm := Rg.lt_r (nle_lt c_7) (Rg.top x_4) (Rg.top zm) (by decide)
    refine W.widen (k := 0) (n := 0) (Nat.le_of_ble_eq_true rfl) (Nat.le_of_ble_eq_true rfl) ?_
    have hP9 := hP.sub (ws' := [(hh, .inr (4, [.ref ha, .ref po, .ref pr_, .ref pa, .ref pf, .ref p5, .ref p6, .ref p7, .ref p8, .int zs, .int zw, .ref hl0, .int zo, .int zr, .int zc, .int zl, .int zm, .int zn, .int zf]))]) [0] rfl
    have hD9 := hD.sub (ws' := [(hh, .inr (4, [.ref ha, .ref po, .ref pr_, .ref pa, .ref pf, .ref p5, .ref p6, .ref p7, .ref p8, .int zs, .int zw, .ref hl0, .int zo, .int zr, .int zc, .int zl, .int zm, .int zn, .int zf]))]) [0] (by decide) rfl
    exact W.vret hx hb hr (fun t9 ht9 hW9 => ⟨⟨(), rfl, trivial, ⟨zm, zn, zf, by rw [ht9]; exact hP9, hD9⟩⟩, hS.F ht9⟩) hS.2.2 dX5_weigh_24
theorem dX5_offer_0 : decode cX5_offer 0 = .ok (.iconst 0, 1) := by decide +kernel
theorem dX5_offer_1 : decode cX5_offer 1 = .ok (.istore 4, 2) := by decide +kernel
theorem dX5_offer_3 : decode cX5_offer 3 = .ok (.iload 4, 2) := by decide +kernel
theorem dX5_offer_5 : decode cX5_offer 5 = .ok (.bipush 8, 2) := by decide +kernel
theorem dX5_offer_7 : decode cX5_offer 7 = .ok (.if_icmp .ge 90, 3) := by decide +kernel
theorem dX5_offer_97 : decode cX5_offer 97 = .ok (.return_, 1) := by decide +kernel
theorem dX5_offer_10 : decode cX5_offer 10 = .ok (.iload_n 3, 1) := by decide +kernel
theorem dX5_offer_11 : decode cX5_offer 11 = .ok (.aload_n 0, 1) := by decide +kernel
theorem dX5_offer_12 : decode cX5_offer 12 = .ok (.getfield 53, 3) := by decide +kernel
theorem dX5_offer_15 : decode cX5_offer 15 = .ok (.if_icmp .gt 82, 3) := by decide +kernel
theorem dX5_offer_18 : decode cX5_offer 18 = .ok (.iload_n 2, 1) := by decide +kernel
theorem dX5_offer_19 : decode cX5_offer 19 = .ok (.iload 4, 2) := by decide +kernel
theorem dX5_offer_21 : decode cX5_offer 21 = .ok (.ishr, 1) := by decide +kernel
theorem dX5_offer_22 : decode cX5_offer 22 = .ok (.iconst 1, 1) := by decide +kernel
theorem dX5_offer_23 : decode cX5_offer 23 = .ok (.iand, 1) := by decide +kernel
theorem dX5_offer_24 : decode cX5_offer 24 = .ok (.ifCond .eq 16, 3) := by decide +kernel
theorem dX5_offer_41 : decode cX5_offer 41 = .ok (.istore 5, 2) := by decide +kernel
theorem dX5_offer_43 : decode cX5_offer 43 = .ok (.iload 5, 2) := by decide +kernel
theorem dX5_offer_45 : decode cX5_offer 45 = .ok (.iconst (-1), 1) := by decide +kernel
theorem dX5_offer_46 : decode cX5_offer 46 = .ok (.if_icmp .eq 45, 3) := by decide +kernel
theorem dX5_offer_91 : decode cX5_offer 91 = .ok (.iinc 4 1, 3) := by decide +kernel
theorem dX5_offer_94 : decode cX5_offer 94 = .ok (.goto (-91), 3) := by decide +kernel
theorem dX5_offer_49 : decode cX5_offer 49 = .ok (.iload_n 3, 1) := by decide +kernel
theorem dX5_offer_50 : decode cX5_offer 50 = .ok (.aload_n 0, 1) := by decide +kernel
theorem dX5_offer_51 : decode cX5_offer 51 = .ok (.getfield 24, 3) := by decide +kernel
theorem dX5_offer_54 : decode cX5_offer 54 = .ok (.iload 5, 2) := by decide +kernel
theorem dX5_offer_56 : decode cX5_offer 56 = .ok (.iaload, 1) := by decide +kernel
theorem dX5_offer_57 : decode cX5_offer 57 = .ok (.if_icmp .ge 34, 3) := by decide +kernel
theorem dX5_offer_60 : decode cX5_offer 60 = .ok (.aload_n 0, 1) := by decide +kernel
theorem dX5_offer_61 : decode cX5_offer 61 = .ok (.getfield 24, 3) := by decide +kernel
theorem dX5_offer_64 : decode cX5_offer 64 = .ok (.iload 5, 2) := by decide +kernel
theorem dX5_offer_66 : decode cX5_offer 66 = .ok (.iaload, 1) := by decide +kernel
theorem dX5_offer_67 : decode cX5_offer 67 = .ok (.ldc 85, 2) := by decide +kernel
theorem dX5_offer_69 : decode cX5_offer 69 = .ok (.if_icmp .eq 9, 3) := by decide +kernel
theorem dX5_offer_78 : decode cX5_offer 78 = .ok (.aload_n 0, 1) := by decide +kernel
theorem dX5_offer_79 : decode cX5_offer 79 = .ok (.iload 5, 2) := by decide +kernel
theorem dX5_offer_81 : decode cX5_offer 81 = .ok (.iload_n 1, 1) := by decide +kernel
theorem dX5_offer_82 : decode cX5_offer 82 = .ok (.iconst 1, 1) := by decide +kernel
theorem dX5_offer_83 : decode cX5_offer 83 = .ok (.iload 4, 2) := by decide +kernel
theorem dX5_offer_85 : decode cX5_offer 85 = .ok (.ishl, 1) := by decide +kernel
theorem dX5_offer_86 : decode cX5_offer 86 = .ok (.ixor, 1) := by decide +kernel
theorem dX5_offer_87 : decode cX5_offer 87 = .ok (.iload_n 3, 1) := by decide +kernel
theorem dX5_offer_88 : decode cX5_offer 88 = .ok (.invokevirtual 131, 3) := by decide +kernel
theorem qq_4_225 : Cond.code yX5_link cX5_link 6 none ∈ TB := mk_tb (ti_4 (List.mem_of_getElem? (i := 225) rfl)) rfl
theorem qq_4_222 : Cond.methodLink "WrongHole$Paths" 131 yX5_link ∈ TB := mk_tb (ti_4 (List.mem_of_getElem? (i := 222) rfl)) rfl
theorem qq_4_224 : Cond.instanceMethod yX5_link ∈ TB := mk_tb (ti_4 (List.mem_of_getElem? (i := 224) rfl)) rfl
theorem qs_1_5 : Cond.selects "WrongHole$Paths" yX5_link yX5_link ∈ TB := mk_tb (ti_s (q := (yX5_link, 19)) (List.mem_append_right _ (List.mem_append_left _ (List.mem_of_getElem? (i := 5) rfl)))) rfl
theorem dX5_offer_72 : decode cX5_offer 72 = .ok (.aload_n 0, 1) := by decide +kernel
theorem dX5_offer_73 : decode cX5_offer 73 = .ok (.iload 5, 2) := by decide +kernel
theorem dX5_offer_75 : decode cX5_offer 75 = .ok (.invokevirtual 135, 3) := by decide +kernel
theorem qq_4_229 : Cond.code yX5_unlink cX5_unlink 4 none ∈ TB := mk_tb (ti_4 (List.mem_of_getElem? (i := 229) rfl)) rfl
theorem qq_4_226 : Cond.methodLink "WrongHole$Paths" 135 yX5_unlink ∈ TB := mk_tb (ti_4 (List.mem_of_getElem? (i := 226) rfl)) rfl
theorem qq_4_228 : Cond.instanceMethod yX5_unlink ∈ TB := mk_tb (ti_4 (List.mem_of_getElem? (i := 228) rfl)) rfl
theorem qs_1_6 : Cond.selects "WrongHole$Paths" yX5_unlink yX5_unlink ∈ TB := mk_tb (ti_s (q := (yX5_unlink, 19)) (List.mem_append_right _ (List.mem_append_left _ (List.mem_of_getElem? (i := 6) rfl)))) rfl
theorem dX5_offer_40 : decode cX5_offer 40 = .ok (.iconst (-1), 1) := by decide +kernel
theorem dX5_offer_27 : decode cX5_offer 27 = .ok (.aload_n 0, 1) := by decide +kernel
theorem dX5_offer_28 : decode cX5_offer 28 = .ok (.iload_n 1, 1) := by decide +kernel
theorem dX5_offer_29 : decode cX5_offer 29 = .ok (.iconst 1, 1) := by decide +kernel
theorem dX5_offer_30 : decode cX5_offer 30 = .ok (.iload 4, 2) := by decide +kernel
theorem dX5_offer_32 : decode cX5_offer 32 = .ok (.ishl, 1) := by decide +kernel
theorem dX5_offer_33 : decode cX5_offer 33 = .ok (.ixor, 1) := by decide +kernel
theorem dX5_offer_34 : decode cX5_offer 34 = .ok (.invokevirtual 81, 3) := by decide +kernel
theorem dX5_offer_37 : decode cX5_offer 37 = .ok (.goto 4, 3) := by decide +kernel
set_option maxHeartbeats 4000000 in
set_option maxRecDepth 100000 in
theorem c_P_offer (l : Launch) (D : va_G) (cs : Nat → ClassId) (X : XX) (sz : Nat) (hh : Nat) (ha : Nat) (po : Nat) (pr_ : Nat) (pa : Nat) (pf : Nat) (p5 : Nat) (p6 : Nat) (p7 : Nat) (p8 : Nat) (zs : Int32) (zw : Int32) (zo : Int32) (zr : Int32) (zc : Int32) (zl : Int32) (zm : Int32) (zn : Int32) (zf : Int32) (hl0 : Nat) (L : Nat) (go : Nat → Int32) (gr : Nat → Int32) (gf : Nat → Int32) (g5 : Nat → Int32) (g6 : Nat → Int32) (g7 : Nat → Int32) (g8 : Nat → Int32) (a : Int32) (b : Int32) (h : Int32) (hL : L ≤ 65536) (r_zs : Rg 0 65536 zs) (a_go : ∀ j, j < 256 → Rg 0 65536 (go j)) (a_gr : ∀ j, j < 256 → Rg 0 256 (gr j)) (a_gf : ∀ j, j < 64 → Rg (-1) ((L : Int) - 1) (gf j)) (a_g7 : ∀ j, j < L → Rg (-1) ((L : Int) - 1) (g7 j)) (a_g8 : ∀ j, j < L → Rg (-1) ((L : Int) - 1) (g8 j)) : Met l yX5_offer (Cond.code yX5_offer cX5_offer 6 none :: TB) (RM 1 0 0) (va_Pc [.ref hh, .int a, .int b, .int h] (PRE D cs X [(hh, .inr (4, [.ref ha, .ref po, .ref pr_, .ref pa, .ref pf, .ref p5, .ref p6, .ref p7, .ref p8, .int zs, .int zw, .ref hl0, .int zo, .int zr, .int zc, .int zl, .int zm, .int zn, .int zf])), (po, .inl ((cs 0), 256, .inl go)), (pr_, .inl ((cs 0), 256, .inl gr)), (pf, .inl ((cs 0), 64, .inl gf)), (p5, .inl ((cs 0), L, .inl g5)), (p6, .inl ((cs 0), L, .inl g6)), (p7, .inl ((cs 0), L, .inl g7)), (p8, .inl ((cs 0), L, .inl g8))] [] sz)) (va_Qv (S := Unit) (fun _ => True) (fun _ t => ∃ (zw2 : Int32), ∃ (gfn : Nat → Int32), ∃ (g5n : Nat → Int32), ∃ (g6n : Nat → Int32), ∃ (g7n : Nat → Int32), ∃ (g8n : Nat → Int32), (∀ j, j < 64 → Rg (-1) ((L : Int) - 1) (gfn j)) ∧ (∀ j, j < L → Rg (-1) ((L : Int) - 1) (g7n j)) ∧ (∀ j, j < L → Rg (-1) ((L : Int) - 1) (g8n j)) ∧ va_P D vwCl [(hh, .inr (4, [.ref ha, .ref po, .ref pr_, .ref pa, .ref pf, .ref p5, .ref p6, .ref p7, .ref p8, .int zs, .int zw2, .ref hl0, .int zo, .int zr, .int zc, .int zl, .int zm, .int zn, .int zf])), (po, .inl ((cs 0), 256, .inl go)), (pr_, .inl ((cs 0), 256, .inl gr)), (pf, .inl ((cs 0), 64, .inl gfn)), (p5, .inl ((cs 0), L, .inl g5n)), (p6, .inl ((cs 0), L, .inl g6n)), (p7, .inl ((cs 0), L, .inl g7n)), (p8, .inl ((cs 0), L, .inl g8n))] t.heap ∧ va_D (va_A [(hh, .inr (4, [.ref ha, .ref po, .ref pr_, .ref pa, .ref pf, .ref p5, .ref p6, .ref p7, .ref p8, .int zs, .int zw, .ref hl0, .int zo, .int zr, .int zc, .int zl, .int zm, .int zn, .int zf])), (po, .inl ((cs 0), 256, .inl go)), (pr_, .inl ((cs 0), 256, .inl gr)), (pf, .inl ((cs 0), 64, .inl gf)), (p5, .inl ((cs 0), L, .inl g5)), (p6, .inl ((cs 0), L, .inl g6)), (p7, .inl ((cs 0), L, .inl g7)), (p8, .inl ((cs 0), L, .inl g8))] sz) [(hh, .inr (4, [.ref ha, .ref po, .ref pr_, .ref pa, .ref pf, .ref p5, .ref p6, .ref p7, .ref p8, .int zs, .int zw2, .ref hl0, .int zo, .int zr, .int zc, .int zl, .int zm, .int zn, .int zf])), (po, .inl ((cs 0), 256, .inl go)), (pr_, .inl ((cs 0), 256, .inl gr)), (pf, .inl ((cs 0), 64, .inl gfn)), (p5, .inl ((cs 0), L, .inl g5n)), (p6, .inl ((cs 0), L, .inl g6n)), (p7, .inl ((cs 0), L, .inl g7n)), (p8, .inl ((cs 0), L, .inl g8n))]) (va_A [(hh, .inr (4, [.ref ha, .ref po, .ref pr_, .ref pa, .ref pf, .ref p5, .ref p6, .ref p7, .ref p8, .int zs, .int zw, .ref hl0, .int zo, .int zr, .int zc, .int zl, .int zm, .int zn, .int zf])), (po, .inl ((cs 0), 256, .inl go)), (pr_, .inl ((cs 0), 256, .inl gr)), (pf, .inl ((cs 0), 64, .inl gf)), (p5, .inl ((cs 0), L, .inl g5)), (p6, .inl ((cs 0), L, .inl g6)), (p7, .inl ((cs 0), L, .inl g7)), (p8, .inl ((cs 0), L, .inl g8))] sz)) 0 0 (va_A [(hh, .inr (4, [.ref ha, .ref po, .ref pr_, .ref pa, .ref pf, .ref p5, .ref p6, .ref p7, .ref p8, .int zs, .int zw, .ref hl0, .int zo, .int zr, .int zc, .int zl, .int zm, .int zn, .int zf])), (po, .inl ((cs 0), 256, .inl go)), (pr_, .inl ((cs 0), 256, .inl gr)), (pf, .inl ((cs 0), 64, .inl gf)), (p5, .inl ((cs 0), L, .inl g5)), (p6, .inl ((cs 0), L, .inl g6)), (p7, .inl ((cs 0), L, .inl g7)), (p8, .inl ((cs 0), L, .inl g8))] sz) := by
  refine MET (y := yX5_offer) (cc := cX5_offer) (maxL := 6) (ret := none) (d := 1) (mc := 0) (ms := 0) (D := D) (cs := cs) (X := X) (ws := [(hh, .inr (4, [.ref ha, .ref po, .ref pr_, .ref pa, .ref pf, .ref p5, .ref p6, .ref p7, .ref p8, .int zs, .int zw, .ref hl0, .int zo, .int zr, .int zc, .int zl, .int zm, .int zn, .int zf])), (po, .inl ((cs 0), 256, .inl go)), (pr_, .inl ((cs 0), 256, .inl gr)), (pf, .inl ((cs 0), 64, .inl gf)), (p5, .inl ((cs 0), L, .inl g5)), (p6, .inl ((cs 0), L, .inl g6)), (p7, .inl ((cs 0), L, .inl g7)), (p8, .inl ((cs 0), L, .inl g8))]) (wo := []) (sz := sz) (av := [.ref hh, .int a, .int b, .int h]) (Qc := fun A => va_Qv (S := Unit) (fun _ => True) (fun _ t => ∃ (zw2 : Int32), ∃ (gfn : Nat → Int32), ∃ (g5n : Nat → Int32), ∃ (g6n : Nat → Int32), ∃ (g7n : Nat → Int32), ∃ (g8n : Nat → Int32), (∀ j, j < 64 → Rg (-1) ((L : Int) - 1) (gfn j)) ∧ (∀ j, j < L → Rg (-1) ((L : Int) - 1) (g7n j)) ∧ (∀ j, j < L → Rg (-1) ((L : Int) - 1) (g8n j)) ∧ va_P D vwCl [(hh, .inr (4, [.ref ha, .ref po, .ref pr_, .ref pa, .ref pf, .ref p5, .ref p6, .ref p7, .ref p8, .int zs, .int zw2, .ref hl0, .int zo, .int zr, .int zc, .int zl, .int zm, .int zn, .int zf])), (po, .inl ((cs 0), 256, .inl go)), (pr_, .inl ((cs 0), 256, .inl gr)), (pf, .inl ((cs 0), 64, .inl gfn)), (p5, .inl ((cs 0), L, .inl g5n)), (p6, .inl ((cs 0), L, .inl g6n)), (p7, .inl ((cs 0), L, .inl g7n)), (p8, .inl ((cs 0), L, .inl g8n))] t.heap ∧ va_D A [(hh, .inr (4, [.ref ha, .ref po, .ref pr_, .ref pa, .ref pf, .ref p5, .ref p6, .ref p7, .ref p8, .int zs, .int zw2, .ref hl0, .int zo, .int zr, .int zc, .int zl, .int zm, .int zn, .int zf])), (po, .inl ((cs 0), 256, .inl go)), (pr_, .inl ((cs 0), 256, .inl gr)), (pf, .inl ((cs 0), 64, .inl gfn)), (p5, .inl ((cs 0), L, .inl g5n)), (p6, .inl ((cs 0), L, .inl g6n)), (p7, .inl ((cs 0), L, .inl g7n)), (p8, .inl ((cs 0), L, .inl g8n))]) A) (by decide) (Nat.le_of_ble_eq_true rfl) ?_
  intro p e s m below meth c ls A H hHe hx hb hr hml hown hts hlocks hnm hP hK hD hA hS hN hR hX hXs hl
  have hD : va_D A [(hh, .inr (4, [.ref ha, .ref po, .ref pr_, .ref pa, .ref pf, .ref p5, .ref p6, .ref p7, .ref p8, .int zs, .int zw, .ref hl0, .int zo, .int zr, .int zc, .int zl, .int zm, .int zn, .int zf])), (po, .inl ((cs 0), 256, .inl go)), (pr_, .inl ((cs 0), 256, .inl gr)), (pf, .inl ((cs 0), 64, .inl gf)), (p5, .inl ((cs 0), L, .inl g5)), (p6, .inl ((cs 0), L, .inl g6)), (p7, .inl ((cs 0), L, .inl g7)), (p8, .inl ((cs 0), L, .inl g8))] := hD
  obtain ⟨locs, hlc⟩ : ∃ z : List Loc, z = [] := ⟨_, rfl⟩
  rw [← hlc] at hS ⊢
  have hown : s.vm.findClass "WrongHole$Paths" = some m.cls := hown
  have hT : ∀ w ∈ TB, w.before ([.ref hh, .int a, .int b, .int h] : List Value).toArray s = true := fun w h => hts w (List.mem_cons_of_mem _ h)
  have hl : lv_has ls 6 [(0, .ref hh), (1, .int a), (2, .int b), (3, .int h)] := hl
  have hP : va_P D vwCl [(hh, .inr (4, [.ref ha, .ref po, .ref pr_, .ref pa, .ref pf, .ref p5, .ref p6, .ref p7, .ref p8, .int zs, .int zw, .ref hl0, .int zo, .int zr, .int zc, .int zl, .int zm, .int zn, .int zf])), (po, .inl ((cs 0), 256, .inl go)), (pr_, .inl ((cs 0), 256, .inl gr)), (pf, .inl ((cs 0), 64, .inl gf)), (p5, .inl ((cs 0), L, .inl g5)), (p6, .inl ((cs 0), L, .inl g6)), (p7, .inl ((cs 0), L, .inl g7)), (p8, .inl ((cs 0), L, .inl g8))] H := hP
  refine lv_iconst (v := 0) hx hb dX5_offer_0 (by first | decide | omega) ?_
  refine lv_istore (lv' := [(4, .int 0), (0, .ref hh), (1, .int a), (2, .int b), (3, .int h)]) hx hb dX5_offer_1 hl (by first | decide | omega) rfl (fun ls hl => ?_)
  refine w_wh (σ := (Int32) × (Int32) × (Nat → Int32) × (Nat → Int32) × (Nat → Int32) × (Nat → Int32) × (Nat → Int32)) (fun x9 H locs ls => match x9 with | (v_273, v_274, g_275, g_276, g_277, g_278, g_279) => Rg 0 8 v_273 ∧ (∀ j, j < 64 → Rg (-1) ((L : Int) - 1) (g_275 j)) ∧ (∀ j, j < L → Rg (-1) ((L : Int) - 1) (g_278 j)) ∧ (∀ j, j < L → Rg (-1) ((L : Int) - 1) (g_279 j)) ∧ va_P D vwCl [(hh, .inr (4, [.ref ha, .ref po, .ref pr_, .ref pa, .ref pf, .ref p5, .ref p6, .ref p7, .ref p8, .int zs, .int v_274, .ref hl0, .int zo, .int zr, .int zc, .int zl, .int zm, .int zn, .int zf])), (po, .inl ((cs 0), 256, .inl go)), (pr_, .inl ((cs 0), 256, .inl gr)), (pf, .inl ((cs 0), 64, .inl g_275)), (p5, .inl ((cs 0), L, .inl g_276)), (p6, .inl ((cs 0), L, .inl g_277)), (p7, .inl ((cs 0), L, .inl g_278)), (p8, .inl ((cs 0), L, .inl g_279))] H ∧ va_D A [(hh, .inr (4, [.ref ha, .ref po, .ref pr_, .ref pa, .ref pf, .ref p5, .ref p6, .ref p7, .ref p8, .int zs, .int v_274, .ref hl0, .int zo, .int zr, .int zc, .int zl, .int zm, .int zn, .int zf])), (po, .inl ((cs 0), 256, .inl go)), (pr_, .inl ((cs 0), 256, .inl gr)), (pf, .inl ((cs 0), 64, .inl g_275)), (p5, .inl ((cs 0), L, .inl g_276)), (p6, .inl ((cs 0), L, .inl g_277)), (p7, .inl ((cs 0), L, .inl g_278)), (p8, .inl ((cs 0), L, .inl g_279))] ∧ va_S A s.heap H locs ∧ lv_has ls 6 [(4, .int v_273), (0, .ref hh), (1, .int a), (2, .int b), (3, .int h)]) (fun x9 => match x9 with | (v_273, v_274, g_275, g_276, g_277, g_278, g_279) => (8 - Int32.toInt v_273).toNat) 3 ?_ (0, zw, gf, g5, g6, g7, g8) H locs ls ⟨(Rg.wk (lo2 := 0) (hi2 := 8) (Rg.c (c := 0) (k := 0) rfl) (by first | decide | omega)), a_gf, a_g7, a_g8, hP, hD, hS, lv_sub hl [0, 1, 2, 3, 4] rfl⟩
  rintro ⟨v_273, v_274, g_275, g_276, g_277, g_278, g_279⟩ H locs ls ⟨r_3011, ra_3012, ra_3013, ra_3014, hP, hD, hS, hl⟩ ih_3010
  refine lv_iload hx hb dX5_offer_3 (lv_at hl 0 rfl) ?_
  refine lv_bipush (v := 8) hx hb dX5_offer_5 (by first | decide | omega) ?_
  refine lv_icmp_ge (tgt := 97) hx hb dX5_offer_7 (by first | decide | omega) (fun c_3015 => ?_) (fun c_3015 => ?_)
  · have r_3016 : Rg 8 8 v_273 := Rg.le_r c_3015 (Rg.c (c := 8) (k := 8) rfl) r_3011 (by first | decide | omega)
    refine W.widen (k := 0) (n := 0) (Nat.le_of_ble_eq_true rfl) (Nat.le_of_ble_eq_true rfl) ?_
    have hP9 := hP.sub (ws' := [(hh, .inr (4, [.ref ha, .ref po, .ref pr_, .ref pa, .ref pf, .ref p5, .ref p6, .ref p7, .ref p8, .int zs, .int v_274, .ref hl0, .int zo, .int zr, .int zc, .int zl, .int zm, .int zn, .int zf])), (po, .inl ((cs 0), 256, .inl go)), (pr_, .inl ((cs 0), 256, .inl gr)), (pf, .inl ((cs 0), 64, .inl g_275)), (p5, .inl ((cs 0), L, .inl g_276)), (p6, .inl ((cs 0), L, .inl g_277)), (p7, .inl ((cs 0), L, .inl g_278)), (p8, .inl ((cs 0), L, .inl g_279))]) [0, 1, 2, 3, 4, 5, 6, 7] rfl
    have hD9 := hD.sub (ws' := [(hh, .inr (4, [.ref ha, .ref po, .ref pr_, .ref pa, .ref pf, .ref p5, .ref p6, .ref p7, .ref p8, .int zs, .int v_274, .ref hl0, .int zo, .int zr, .int zc, .int zl, .int zm, .int zn, .int zf])), (po, .inl ((cs 0), 256, .inl go)), (pr_, .inl ((cs 0), 256, .inl gr)), (pf, .inl ((cs 0), 64, .inl g_275)), (p5, .inl ((cs 0), L, .inl g_276)), (p6, .inl ((cs 0), L, .inl g_277)), (p7, .inl ((cs 0), L, .inl g_278)), (p8, .inl ((cs 0), L, .inl g_279))]) [0, 1, 2, 3, 4, 5, 6, 7] (by first | decide | omega) rfl
    exact W.vret hx hb hr (fun t9 ht9 hW9 => ⟨⟨(), rfl, trivial, ⟨v_274, g_275, g_276, g_277, g_278, g_279, ra_3012, ra_3013, ra_3014, by rw [ht9]; exact hP9, hD9⟩⟩, hS.F ht9⟩) hS.2.2 dX5_offer_97
  · have r_3017 : Rg 0 7 v_273 := Rg.lt_l (nle_lt c_3015) r_3011 (Rg.c (c := 8) (k := 8) rfl) (by first | decide | omega)
    refine lv_iload_n hx hb dX5_offer_10 rfl (lv_at hl 4 rfl) ?_
    refine lv_aload_n hx hb dX5_offer_11 rfl (lv_at hl 1 rfl) ?_
    refine va_get (D := D) (ci := 4) (v := .int zl) (C := "WrongHole$Paths") (T := TX5) (N := 19) hx hb hts (iq_RX5 _) hown hK hP 0 rfl rfl 15 (by first | decide | omega) (hT _ qq_4_151) (fun _ h9 => h9) rfl dX5_offer_12 ?_
    refine lv_icmp_gt (tgt := 97) hx hb dX5_offer_15 (by first | decide | omega) (fun c_3170 => ?_) (fun c_3170 => ?_)
    · have r_3171 : Rg (-2147483648) 2147483646 zl := Rg.lt_l c_3170 (Rg.top zl) (Rg.top h) (by first | decide | omega)
      have r_3172 : Rg (-2147483647) 2147483647 h := Rg.lt_r c_3170 (Rg.top zl) (Rg.top h) (by first | decide | omega)
      refine W.widen (k := 0) (n := 0) (Nat.le_of_ble_eq_true rfl) (Nat.le_of_ble_eq_true rfl) ?_
      have hP9 := hP.sub (ws' := [(hh, .inr (4, [.ref ha, .ref po, .ref pr_, .ref pa, .ref pf, .ref p5, .ref p6, .ref p7, .ref p8, .int zs, .int v_274, .ref hl0, .int zo, .int zr, .int zc, .int zl, .int zm, .int zn, .int zf])), (po, .inl ((cs 0), 256, .inl go)), (pr_, .inl ((cs 0), 256, .inl gr)), (pf, .inl ((cs 0), 64, .inl g_275)), (p5, .inl ((cs 0), L, .inl g_276)), (p6, .inl ((cs 0), L, .inl g_277)), (p7, .inl ((cs 0), L, .inl g_278)), (p8, .inl ((cs 0), L, .inl g_279))]) [0, 1, 2, 3, 4, 5, 6, 7] rfl
      have hD9 := hD.sub (ws' := [(hh, .inr (4, [.ref ha, .ref po, .ref pr_, .ref pa, .ref pf, .ref p5, .ref p6, .ref p7, .ref p8, .int zs, .int v_274, .ref hl0, .int zo, .int zr, .int zc, .int zl, .int zm, .int zn, .int zf])), (po, .inl ((cs 0), 256, .inl go)), (pr_, .inl ((cs 0), 256, .inl gr)), (pf, .inl ((cs 0), 64, .inl g_275)), (p5, .inl ((cs 0), L, .inl g_276)), (p6, .inl ((cs 0), L, .inl g_277)), (p7, .inl ((cs 0), L, .inl g_278)), (p8, .inl ((cs 0), L, .inl g_279))]) [0, 1, 2, 3, 4, 5, 6, 7] (by first | decide | omega) rfl
      exact W.vret hx hb hr (fun t9 ht9 hW9 => ⟨⟨(), rfl, trivial, ⟨v_274, g_275, g_276, g_277, g_278, g_279, ra_3012, ra_3013, ra_3014, by rw [ht9]; exact hP9, hD9⟩⟩, hS.F ht9⟩) hS.2.2 dX5_offer_97
    · refine lv_iload_n hx hb dX5_offer_18 rfl (lv_at hl 3 rfl) ?_
      refine lv_iload hx hb dX5_offer_19 (lv_at hl 0 rfl) ?_
      refine lv_ishr hx hb dX5_offer_21 ?_
      refine lv_topi (fun x_3322 e_3323 => ?_)
      refine lv_iconst (v := 1) hx hb dX5_offer_22 (by first | decide | omega) ?_
      refine lv_iand hx hb dX5_offer_23 ?_
      refine lv_topi (fun x_3324 e_3325 => ?_)
      have r_3326 : Rg 0 1 x_3324 := Rg.and e_3325 (Rg.c (c := 1) (k := 1) rfl) (by first | decide | omega)
      refine w_cut (σ := (Int32)) (fun (v_3338 : Int32) H locs ls => Rg (-1) ((L : Int) - 1) v_3338 ∧ va_P D vwCl [(hh, .inr (4, [.ref ha, .ref po, .ref pr_, .ref pa, .ref pf, .ref p5, .ref p6, .ref p7, .ref p8, .int zs, .int v_274, .ref hl0, .int zo, .int zr, .int zc, .int zl, .int zm, .int zn, .int zf])), (po, .inl ((cs 0), 256, .inl go)), (pr_, .inl ((cs 0), 256, .inl gr)), (pf, .inl ((cs 0), 64, .inl g_275)), (p5, .inl ((cs 0), L, .inl g_276)), (p6, .inl ((cs 0), L, .inl g_277)), (p7, .inl ((cs 0), L, .inl g_278)), (p8, .inl ((cs 0), L, .inl g_279))] H ∧ va_D A [(hh, .inr (4, [.ref ha, .ref po, .ref pr_, .ref pa, .ref pf, .ref p5, .ref p6, .ref p7, .ref p8, .int zs, .int v_274, .ref hl0, .int zo, .int zr, .int zc, .int zl, .int zm, .int zn, .int zf])), (po, .inl ((cs 0), 256, .inl go)), (pr_, .inl ((cs 0), 256, .inl gr)), (pf, .inl ((cs 0), 64, .inl g_275)), (p5, .inl ((cs 0), L, .inl g_276)), (p6, .inl ((cs 0), L, .inl g_277)), (p7, .inl ((cs 0), L, .inl g_278)), (p8, .inl ((cs 0), L, .inl g_279))] ∧ va_S A s.heap H locs ∧ lv_has ls 6 [(4, .int v_273), (0, .ref hh), (1, .int a), (2, .int b), (3, .int h)]) 41 (fun (v_3338 : Int32) => [.int v_3338]) ?_ (fun hj_3339 => ?_)
      · rintro v_3338 H locs ls ⟨r_3340, hP, hD, hS, hl⟩
        refine lv_istore (lv' := [(5, .int v_3338), (4, .int v_273), (0, .ref hh), (1, .int a), (2, .int b), (3, .int h)]) hx hb dX5_offer_41 hl (by first | decide | omega) rfl (fun ls hl => ?_)
        refine lv_iload hx hb dX5_offer_43 (lv_at hl 0 rfl) ?_
        refine lv_iconst (v := (-1)) hx hb dX5_offer_45 (by first | decide | omega) ?_
        refine w_cut (σ := (Int32) × (Nat → Int32) × (Nat → Int32) × (Nat → Int32) × (Nat → Int32) × (Nat → Int32)) (fun x9 H locs ls => match x9 with | (v_3400, g_3401, g_3402, g_3403, g_3404, g_3405) => (∀ j, j < 64 → Rg (-1) ((L : Int) - 1) (g_3401 j)) ∧ (∀ j, j < L → Rg (-1) ((L : Int) - 1) (g_3404 j)) ∧ (∀ j, j < L → Rg (-1) ((L : Int) - 1) (g_3405 j)) ∧ va_P D vwCl [(hh, .inr (4, [.ref ha, .ref po, .ref pr_, .ref pa, .ref pf, .ref p5, .ref p6, .ref p7, .ref p8, .int zs, .int v_3400, .ref hl0, .int zo, .int zr, .int zc, .int zl, .int zm, .int zn, .int zf])), (po, .inl ((cs 0), 256, .inl go)), (pr_, .inl ((cs 0), 256, .inl gr)), (pf, .inl ((cs 0), 64, .inl g_3401)), (p5, .inl ((cs 0), L, .inl g_3402)), (p6, .inl ((cs 0), L, .inl g_3403)), (p7, .inl ((cs 0), L, .inl g_3404)), (p8, .inl ((cs 0), L, .inl g_3405))] H ∧ va_D A [(hh, .inr (4, [.ref ha, .ref po, .ref pr_, .ref pa, .ref pf, .ref p5, .ref p6, .ref p7, .ref p8, .int zs, .int v_3400, .ref hl0, .int zo, .int zr, .int zc, .int zl, .int zm, .int zn, .int zf])), (po, .inl ((cs 0), 256, .inl go)), (pr_, .inl ((cs 0), 256, .inl gr)), (pf, .inl ((cs 0), 64, .inl g_3401)), (p5, .inl ((cs 0), L, .inl g_3402)), (p6, .inl ((cs 0), L, .inl g_3403)), (p7, .inl ((cs 0), L, .inl g_3404)), (p8, .inl ((cs 0), L, .inl g_3405))] ∧ va_S A s.heap H locs ∧ lv_has ls 6 [(5, .int v_3338), (4, .int v_273), (0, .ref hh), (1, .int a), (2, .int b), (3, .int h)]) 91 (fun x9 => match x9 with | (v_3400, g_3401, g_3402, g_3403, g_3404, g_3405) => []) ?_ (fun hj_3406 => ?_)
        · rintro ⟨v_3400, g_3401, g_3402, g_3403, g_3404, g_3405⟩ H locs ls ⟨ra_3407, ra_3408, ra_3409, hP, hD, hS, hl⟩
          obtain ⟨x_3410, e_3411⟩ : ∃ z : Int32, z = v_273 + Int32.ofInt 1 := ⟨_, rfl⟩
          have r_3412 : Rg 1 8 x_3410 := Rg.add e_3411 r_3017 (Rg.c (c := Int32.ofInt 1) (k := 1) rfl) (by first | decide | omega)
          refine lv_iinc (v := x_3410) (lv' := [(4, .int x_3410), (5, .int v_3338), (0, .ref hh), (1, .int a), (2, .int b), (3, .int h)]) hx hb dX5_offer_91 hl (k := 1) rfl (e_3411.symm) (by first | decide | omega) rfl (fun ls hl => ?_)
          refine lv_goto (tgt := 3) hx hb dX5_offer_94 (by first | decide | omega) ?_
          exact ih_3010 (x_3410, v_3400, g_3401, g_3402, g_3403, g_3404, g_3405) _ _ _ ⟨(Rg.wk (lo2 := 0) (hi2 := 8) r_3412 (by first | decide | omega)), ra_3407, ra_3408, ra_3409, hP, hD, hS, lv_sub hl [0, 2, 3, 4, 5] rfl⟩ (ms_up e_3411 r_3017 (Rg.c (c := Int32.ofInt 1) (k := 1) rfl) (by first | decide | omega))
        · refine lv_icmp_eq (tgt := 91) hx hb dX5_offer_46 (by first | decide | omega) (fun c_3341 => ?_) (fun c_3341 => ?_)
          · have r_3342 : Rg (-1) (-1) v_3338 := Rg.eq_l c_3341 r_3340 (Rg.c (c := (-1)) (k := (-1)) rfl) (by first | decide | omega)
            exact hj_3406 (v_274, g_275, g_276, g_277, g_278, g_279) _ _ _ ⟨ra_3012, ra_3013, ra_3014, hP, hD, hS, lv_sub hl [0, 1, 2, 3, 4, 5] rfl⟩
          · have r_3343 : Rg 0 ((L : Int) - 1) v_3338 := Rg.ne c_3341 r_3340 (Rg.c (c := (-1)) (k := (-1)) rfl) (by first | decide | omega)
            refine lv_iload_n hx hb dX5_offer_49 rfl (lv_at hl 5 rfl) ?_
            refine lv_aload_n hx hb dX5_offer_50 rfl (lv_at hl 2 rfl) ?_
            refine va_get (D := D) (ci := 4) (v := .ref p5) (C := "WrongHole$Paths") (T := TX5) (N := 19) hx hb hts (iq_RX5 _) hown hK hP 0 rfl rfl 5 (by first | decide | omega) (hT _ qq_4_141) (fun _ h9 => h9) rfl dX5_offer_51 ?_
            refine lv_iload hx hb dX5_offer_54 (lv_at hl 0 rfl) ?_
            have hi_3413 : vp_in v_3338 L := Rg.in r_3343 (by omega)
            refine va_iald hx hb hK hP 4 0 rfl rfl hi_3413 dX5_offer_56 ?_
            refine lv_topi (fun x_3414 e_3415 => ?_)
            refine lv_icmp_ge (tgt := 91) hx hb dX5_offer_57 (by first | decide | omega) (fun c_3416 => ?_) (fun c_3416 => ?_)
            · exact hj_3406 (v_274, g_275, g_276, g_277, g_278, g_279) _ _ _ ⟨ra_3012, ra_3013, ra_3014, hP, hD, hS, lv_sub hl [0, 1, 2, 3, 4, 5] rfl⟩
            · have r_3417 : Rg (-2147483648) 2147483646 h := Rg.lt_l (nle_lt c_3416) (Rg.top h) (Rg.top x_3414) (by first | decide | omega)
              have r_3418 : Rg (-2147483647) 2147483647 x_3414 := Rg.lt_r (nle_lt c_3416) (Rg.top h) (Rg.top x_3414) (by first | decide | omega)
              refine lv_aload_n hx hb dX5_offer_60 rfl (lv_at hl 2 rfl) ?_
              refine va_get (D := D) (ci := 4) (v := .ref p5) (C := "WrongHole$Paths") (T := TX5) (N := 19) hx hb hts (iq_RX5 _) hown hK hP 0 rfl rfl 5 (by first | decide | omega) (hT _ qq_4_141) (fun _ h9 => h9) rfl dX5_offer_61 ?_
              refine lv_iload hx hb dX5_offer_64 (lv_at hl 0 rfl) ?_
              have hi_3419 : vp_in v_3338 L := Rg.in r_3343 (by omega)
              refine va_iald hx hb hK hP 4 0 rfl rfl hi_3419 dX5_offer_66 ?_
              refine lv_topi (fun x_3420 e_3421 => ?_)
              refine lv_ldc (v := 1000000000) hx hb hown (hT _ qq_4_211) dX5_offer_67 ?_
              refine w_cut (σ := (Int32) × (Nat → Int32) × (Nat → Int32) × (Nat → Int32)) (fun x9 H locs ls => match x9 with | (v_3436, g_3437, g_3438, g_3439) => (∀ j, j < 64 → Rg (-1) ((L : Int) - 1) (g_3437 j)) ∧ (∀ j, j < L → Rg (-1) ((L : Int) - 1) (g_3438 j)) ∧ (∀ j, j < L → Rg (-1) ((L : Int) - 1) (g_3439 j)) ∧ va_P D vwCl [(hh, .inr (4, [.ref ha, .ref po, .ref pr_, .ref pa, .ref pf, .ref p5, .ref p6, .ref p7, .ref p8, .int zs, .int v_3436, .ref hl0, .int zo, .int zr, .int zc, .int zl, .int zm, .int zn, .int zf])), (po, .inl ((cs 0), 256, .inl go)), (pr_, .inl ((cs 0), 256, .inl gr)), (pf, .inl ((cs 0), 64, .inl g_3437)), (p5, .inl ((cs 0), L, .inl g_276)), (p6, .inl ((cs 0), L, .inl g_277)), (p7, .inl ((cs 0), L, .inl g_3438)), (p8, .inl ((cs 0), L, .inl g_3439))] H ∧ va_D A [(hh, .inr (4, [.ref ha, .ref po, .ref pr_, .ref pa, .ref pf, .ref p5, .ref p6, .ref p7, .ref p8, .int zs, .int v_3436, .ref hl0, .int zo, .int zr, .int zc, .int zl, .int zm, .int zn, .int zf])), (po, .inl ((cs 0), 256, .inl go)), (pr_, .inl ((cs 0), 256, .inl gr)), (pf, .inl ((cs 0), 64, .inl g_3437)), (p5, .inl ((cs 0), L, .inl g_276)), (p6, .inl ((cs 0), L, .inl g_277)), (p7, .inl ((cs 0), L, .inl g_3438)), (p8, .inl ((cs 0), L, .inl g_3439))] ∧ va_S A s.heap H locs ∧ lv_has ls 6 [(5, .int v_3338), (4, .int v_273), (0, .ref hh), (1, .int a), (2, .int b), (3, .int h)]) 78 (fun x9 => match x9 with | (v_3436, g_3437, g_3438, g_3439) => []) ?_ (fun hj_3440 => ?_)
              · rintro ⟨v_3436, g_3437, g_3438, g_3439⟩ H locs ls ⟨ra_3441, ra_3442, ra_3443, hP, hD, hS, hl⟩
                refine lv_aload_n hx hb dX5_offer_78 rfl (lv_at hl 2 rfl) ?_
                refine lv_iload hx hb dX5_offer_79 (lv_at hl 0 rfl) ?_
                refine lv_iload_n hx hb dX5_offer_81 rfl (lv_at hl 3 rfl) ?_
                refine lv_iconst (v := 1) hx hb dX5_offer_82 (by first | decide | omega) ?_
                refine lv_iload hx hb dX5_offer_83 (lv_at hl 1 rfl) ?_
                refine lv_ishl hx hb dX5_offer_85 ?_
                refine lv_topi (fun x_3444 e_3445 => ?_)
                have r_3446 : Rg 0 128 x_3444 := Rg.shl (ha := 1) (k := 7) e_3445 (Rg.wk (Rg.c (c := 1) (k := 1) rfl) (by first | decide | omega)) (Rg.wk r_3017 (by first | decide | omega)) (by first | decide | omega) (by first | decide | omega)
                refine lv_ixor hx hb dX5_offer_86 ?_
                refine lv_topi (fun x_3447 e_3448 => ?_)
                refine lv_iload_n hx hb dX5_offer_87 rfl (lv_at hl 5 rfl) ?_
                have hPc := hP.sub (ws' := [(hh, .inr (4, [.ref ha, .ref po, .ref pr_, .ref pa, .ref pf, .ref p5, .ref p6, .ref p7, .ref p8, .int zs, .int v_3436, .ref hl0, .int zo, .int zr, .int zc, .int zl, .int zm, .int zn, .int zf])), (pf, .inl ((cs 0), 64, .inl g_3437)), (p5, .inl ((cs 0), L, .inl g_276)), (p6, .inl ((cs 0), L, .inl g_277)), (p7, .inl ((cs 0), L, .inl g_3438)), (p8, .inl ((cs 0), L, .inl g_3439))]) [0, 3, 4, 5, 6, 7] rfl
                have hDc := hD.sub (ws' := [(hh, .inr (4, [.ref ha, .ref po, .ref pr_, .ref pa, .ref pf, .ref p5, .ref p6, .ref p7, .ref p8, .int zs, .int v_3436, .ref hl0, .int zo, .int zr, .int zc, .int zl, .int zm, .int zn, .int zf])), (pf, .inl ((cs 0), 64, .inl g_3437)), (p5, .inl ((cs 0), L, .inl g_276)), (p6, .inl ((cs 0), L, .inl g_277)), (p7, .inl ((cs 0), L, .inl g_3438)), (p8, .inl ((cs 0), L, .inl g_3439))]) [0, 3, 4, 5, 6, 7] (by first | decide | omega) rfl
                have hFc := va_free (wc := [(hh, .inr (4, [.ref ha, .ref po, .ref pr_, .ref pa, .ref pf, .ref p5, .ref p6, .ref p7, .ref p8, .int zs, .int v_3436, .ref hl0, .int zo, .int zr, .int zc, .int zl, .int zm, .int zn, .int zf])), (pf, .inl ((cs 0), 64, .inl g_3437)), (p5, .inl ((cs 0), L, .inl g_276)), (p6, .inl ((cs 0), L, .inl g_277)), (p7, .inl ((cs 0), L, .inl g_3438)), (p8, .inl ((cs 0), L, .inl g_3439))]) hD hS hA [0, 3, 4, 5, 6, 7] rfl
                refine va_callv (va_runV (As := [.int v_3338, .int x_3447, .int h]) (rest := []) ⟨hx, hb, hml, hown, hts⟩ (c_P_link l D cs X H.size hh ha po pr_ pa pf p5 p6 p7 p8 zs v_3436 zo zr zc zl zm zn zf hl0 L g_3437 g_276 g_277 g_3438 g_3439 v_3338 x_3447 h hL r_3343 ra_3441 ra_3442 ra_3443) ⟨callB_of 3 hts (gd_C qq_4_225) rfl rfl rfl (hT _ qq_1_21) (hT _ qq_4_222) (by decide +kernel) (rm_R rfl rfl), (hT _ qq_4_224), (hT _ qs_1_5)⟩ (pr_V hPc hK hDc hN (hR.sub (wo' := []) [] rfl) hS hFc hX hXs (ci := 4) (q0 := 0) rfl rfl) rfl rfl hl.1 rfl (lv_room (Nat.le_of_ble_eq_true rfl)) dX5_offer_88 ⟨Nat.le_of_ble_eq_true rfl, Nat.le_of_ble_eq_true rfl⟩) hS (fun q _ h => hFc q h) hFc (fun u_3449 t_3452 H1 locs ht9 hvm hw_3450 hB_3451 hz1 hk1 hS => ?_)
                obtain ⟨v_3454, g_3455, g_3456, g_3457, g_3458, g_3459, ra_3460, ra_3461, ra_3462, hP1, hD1⟩ := hB_3451
                rw [ht9] at hP1
                obtain ⟨hP, hD⟩ := va_join (wr := [(po, .inl ((cs 0), 256, .inl go)), (pr_, .inl ((cs 0), 256, .inl gr))]) (w1 := [(hh, .inr (4, [.ref ha, .ref po, .ref pr_, .ref pa, .ref pf, .ref p5, .ref p6, .ref p7, .ref p8, .int zs, .int v_3454, .ref hl0, .int zo, .int zr, .int zc, .int zl, .int zm, .int zn, .int zf])), (pf, .inl ((cs 0), 64, .inl g_3455)), (p5, .inl ((cs 0), L, .inl g_3456)), (p6, .inl ((cs 0), L, .inl g_3457)), (p7, .inl ((cs 0), L, .inl g_3458)), (p8, .inl ((cs 0), L, .inl g_3459))]) hP hD [0, 3, 4, 5, 6, 7] [1, 2] rfl rfl (by first | decide | omega) (by first | decide | omega) hk1 hFc hP1 hD1
                generalize H1 = H at hP hS ⊢
                have hP : va_P D vwCl [(po, .inl ((cs 0), 256, .inl go)), (pr_, .inl ((cs 0), 256, .inl gr)), (hh, .inr (4, [.ref ha, .ref po, .ref pr_, .ref pa, .ref pf, .ref p5, .ref p6, .ref p7, .ref p8, .int zs, .int v_3454, .ref hl0, .int zo, .int zr, .int zc, .int zl, .int zm, .int zn, .int zf])), (pf, .inl ((cs 0), 64, .inl g_3455)), (p5, .inl ((cs 0), L, .inl g_3456)), (p6, .inl ((cs 0), L, .inl g_3457)), (p7, .inl ((cs 0), L, .inl g_3458)), (p8, .inl ((cs 0), L, .inl g_3459))] H := hP
                have hD : va_D A [(po, .inl ((cs 0), 256, .inl go)), (pr_, .inl ((cs 0), 256, .inl gr)), (hh, .inr (4, [.ref ha, .ref po, .ref pr_, .ref pa, .ref pf, .ref p5, .ref p6, .ref p7, .ref p8, .int zs, .int v_3454, .ref hl0, .int zo, .int zr, .int zc, .int zl, .int zm, .int zn, .int zf])), (pf, .inl ((cs 0), 64, .inl g_3455)), (p5, .inl ((cs 0), L, .inl g_3456)), (p6, .inl ((cs 0), L, .inl g_3457)), (p7, .inl ((cs 0), L, .inl g_3458)), (p8, .inl ((cs 0), L, .inl g_3459))] := hD
                have hP := hP.sub (ws' := [(hh, .inr (4, [.ref ha, .ref po, .ref pr_, .ref pa, .ref pf, .ref p5, .ref p6, .ref p7, .ref p8, .int zs, .int v_3454, .ref hl0, .int zo, .int zr, .int zc, .int zl, .int zm, .int zn, .int zf])), (po, .inl ((cs 0), 256, .inl go)), (pr_, .inl ((cs 0), 256, .inl gr)), (pf, .inl ((cs 0), 64, .inl g_3455)), (p5, .inl ((cs 0), L, .inl g_3456)), (p6, .inl ((cs 0), L, .inl g_3457)), (p7, .inl ((cs 0), L, .inl g_3458)), (p8, .inl ((cs 0), L, .inl g_3459))]) [2, 0, 1, 3, 4, 5, 6, 7] rfl
                have hD := hD.sub (ws' := [(hh, .inr (4, [.ref ha, .ref po, .ref pr_, .ref pa, .ref pf, .ref p5, .ref p6, .ref p7, .ref p8, .int zs, .int v_3454, .ref hl0, .int zo, .int zr, .int zc, .int zl, .int zm, .int zn, .int zf])), (po, .inl ((cs 0), 256, .inl go)), (pr_, .inl ((cs 0), 256, .inl gr)), (pf, .inl ((cs 0), 64, .inl g_3455)), (p5, .inl ((cs 0), L, .inl g_3456)), (p6, .inl ((cs 0), L, .inl g_3457)), (p7, .inl ((cs 0), L, .inl g_3458)), (p8, .inl ((cs 0), L, .inl g_3459))]) [2, 0, 1, 3, 4, 5, 6, 7] (by first | decide | omega) rfl
                exact hj_3406 (v_3454, g_3455, g_3456, g_3457, g_3458, g_3459) _ _ _ ⟨ra_3460, ra_3461, ra_3462, hP, hD, hS, lv_sub hl [0, 1, 2, 3, 4, 5] rfl⟩
              · refine lv_icmp_eq (tgt := 78) hx hb dX5_offer_69 (by first | decide | omega) (fun c_3422 => ?_) (fun c_3422 => ?_)
                · have r_3423 : Rg 1000000000 1000000000 x_3420 := Rg.eq_l c_3422 (Rg.top x_3420) (Rg.c (c := 1000000000) (k := 1000000000) rfl) (by first | decide | omega)
                  exact hj_3440 (v_274, g_275, g_278, g_279) _ _ _ ⟨ra_3012, ra_3013, ra_3014, hP, hD, hS, lv_sub hl [0, 1, 2, 3, 4, 5] rfl⟩
                · refine lv_aload_n hx hb dX5_offer_72 rfl (lv_at hl 2 rfl) ?_
                  refine lv_iload hx hb dX5_offer_73 (lv_at hl 0 rfl) ?_
                  have hPc := hP.sub (ws' := [(hh, .inr (4, [.ref ha, .ref po, .ref pr_, .ref pa, .ref pf, .ref p5, .ref p6, .ref p7, .ref p8, .int zs, .int v_274, .ref hl0, .int zo, .int zr, .int zc, .int zl, .int zm, .int zn, .int zf])), (pf, .inl ((cs 0), 64, .inl g_275)), (p5, .inl ((cs 0), L, .inl g_276)), (p7, .inl ((cs 0), L, .inl g_278)), (p8, .inl ((cs 0), L, .inl g_279))]) [0, 3, 4, 6, 7] rfl
                  have hDc := hD.sub (ws' := [(hh, .inr (4, [.ref ha, .ref po, .ref pr_, .ref pa, .ref pf, .ref p5, .ref p6, .ref p7, .ref p8, .int zs, .int v_274, .ref hl0, .int zo, .int zr, .int zc, .int zl, .int zm, .int zn, .int zf])), (pf, .inl ((cs 0), 64, .inl g_275)), (p5, .inl ((cs 0), L, .inl g_276)), (p7, .inl ((cs 0), L, .inl g_278)), (p8, .inl ((cs 0), L, .inl g_279))]) [0, 3, 4, 6, 7] (by first | decide | omega) rfl
                  have hFc := va_free (wc := [(hh, .inr (4, [.ref ha, .ref po, .ref pr_, .ref pa, .ref pf, .ref p5, .ref p6, .ref p7, .ref p8, .int zs, .int v_274, .ref hl0, .int zo, .int zr, .int zc, .int zl, .int zm, .int zn, .int zf])), (pf, .inl ((cs 0), 64, .inl g_275)), (p5, .inl ((cs 0), L, .inl g_276)), (p7, .inl ((cs 0), L, .inl g_278)), (p8, .inl ((cs 0), L, .inl g_279))]) hD hS hA [0, 3, 4, 6, 7] rfl
                  refine va_callv (va_runV (As := [.int v_3338]) (rest := []) ⟨hx, hb, hml, hown, hts⟩ (c_P_unlink l D cs X H.size hh ha po pr_ pa pf p5 p6 p7 p8 zs v_274 zo zr zc zl zm zn zf hl0 L g_275 g_276 g_278 g_279 v_3338 hL r_3343 ra_3012 ra_3013 ra_3014) ⟨callB_of 1 hts (gd_C qq_4_229) rfl rfl rfl (hT _ qq_1_21) (hT _ qq_4_226) (by decide +kernel) (rm_R rfl rfl), (hT _ qq_4_228), (hT _ qs_1_6)⟩ (pr_V hPc hK hDc hN (hR.sub (wo' := []) [] rfl) hS hFc hX hXs (ci := 4) (q0 := 0) rfl rfl) rfl rfl hl.1 rfl (lv_room (Nat.le_of_ble_eq_true rfl)) dX5_offer_75 ⟨Nat.le_of_ble_eq_true rfl, Nat.le_of_ble_eq_true rfl⟩) hS (fun q _ h => hFc q h) hFc (fun u_3463 t_3466 H1 locs ht9 hvm hw_3464 hB_3465 hz1 hk1 hS => ?_)
                  obtain ⟨v_3468, g_3469, g_3470, g_3471, ra_3472, ra_3473, ra_3474, hP1, hD1⟩ := hB_3465
                  rw [ht9] at hP1
                  obtain ⟨hP, hD⟩ := va_join (wr := [(po, .inl ((cs 0), 256, .inl go)), (pr_, .inl ((cs 0), 256, .inl gr)), (p6, .inl ((cs 0), L, .inl g_277))]) (w1 := [(hh, .inr (4, [.ref ha, .ref po, .ref pr_, .ref pa, .ref pf, .ref p5, .ref p6, .ref p7, .ref p8, .int zs, .int v_3468, .ref hl0, .int zo, .int zr, .int zc, .int zl, .int zm, .int zn, .int zf])), (pf, .inl ((cs 0), 64, .inl g_3469)), (p5, .inl ((cs 0), L, .inl g_276)), (p7, .inl ((cs 0), L, .inl g_3470)), (p8, .inl ((cs 0), L, .inl g_3471))]) hP hD [0, 3, 4, 6, 7] [1, 2, 5] rfl rfl (by first | decide | omega) (by first | decide | omega) hk1 hFc hP1 hD1
                  generalize H1 = H at hP hS ⊢
                  have hP : va_P D vwCl [(po, .inl ((cs 0), 256, .inl go)), (pr_, .inl ((cs 0), 256, .inl gr)), (p6, .inl ((cs 0), L, .inl g_277)), (hh, .inr (4, [.ref ha, .ref po, .ref pr_, .ref pa, .ref pf, .ref p5, .ref p6, .ref p7, .ref p8, .int zs, .int v_3468, .ref hl0, .int zo, .int zr, .int zc, .int zl, .int zm, .int zn, .int zf])), (pf, .inl ((cs 0), 64, .inl g_3469)), (p5, .inl ((cs 0), L, .inl g_276)), (p7, .inl ((cs 0), L, .inl g_3470)), (p8, .inl ((cs 0), L, .inl g_3471))] H := hP
                  have hD : va_D A [(po, .inl ((cs 0), 256, .inl go)), (pr_, .inl ((cs 0), 256, .inl gr)), (p6, .inl ((cs 0), L, .inl g_277)), (hh, .inr (4, [.ref ha, .ref po, .ref pr_, .ref pa, .ref pf, .ref p5, .ref p6, .ref p7, .ref p8, .int zs, .int v_3468, .ref hl0, .int zo, .int zr, .int zc, .int zl, .int zm, .int zn, .int zf])), (pf, .inl ((cs 0), 64, .inl g_3469)), (p5, .inl ((cs 0), L, .inl g_276)), (p7, .inl ((cs 0), L, .inl g_3470)), (p8, .inl ((cs 0), L, .inl g_3471))] := hD
                  have hP := hP.sub (ws' := [(hh, .inr (4, [.ref ha, .ref po, .ref pr_, .ref pa, .ref pf, .ref p5, .ref p6, .ref p7, .ref p8, .int zs, .int v_3468, .ref hl0, .int zo, .int zr, .int zc, .int zl, .int zm, .int zn, .int zf])), (po, .inl ((cs 0), 256, .inl go)), (pr_, .inl ((cs 0), 256, .inl gr)), (pf, .inl ((cs 0), 64, .inl g_3469)), (p5, .inl ((cs 0), L, .inl g_276)), (p6, .inl ((cs 0), L, .inl g_277)), (p7, .inl ((cs 0), L, .inl g_3470)), (p8, .inl ((cs 0), L, .inl g_3471))]) [3, 0, 1, 4, 5, 2, 6, 7] rfl
                  have hD := hD.sub (ws' := [(hh, .inr (4, [.ref ha, .ref po, .ref pr_, .ref pa, .ref pf, .ref p5, .ref p6, .ref p7, .ref p8, .int zs, .int v_3468, .ref hl0, .int zo, .int zr, .int zc, .int zl, .int zm, .int zn, .int zf])), (po, .inl ((cs 0), 256, .inl go)), (pr_, .inl ((cs 0), 256, .inl gr)), (pf, .inl ((cs 0), 64, .inl g_3469)), (p5, .inl ((cs 0), L, .inl g_276)), (p6, .inl ((cs 0), L, .inl g_277)), (p7, .inl ((cs 0), L, .inl g_3470)), (p8, .inl ((cs 0), L, .inl g_3471))]) [3, 0, 1, 4, 5, 2, 6, 7] (by first | decide | omega) rfl
                  exact hj_3440 (v_3468, g_3469, g_3470, g_3471) _ _ _ ⟨ra_3472, ra_3473, ra_3474, hP, hD, hS, lv_sub hl [0, 1, 2, 3, 4, 5] rfl⟩
      · refine lv_if_eq (tgt := 40) hx hb dX5_offer_24 (by first | decide | omega) (fun c_3327 => ?_) (fun c_3327 => ?_)
        · have r_3328 : Rg 0 0 x_3324 := Rg.eq_l c_3327 r_3326 (Rg.c (c := 0) (k := 0) rfl) (by first | decide | omega)
          refine lv_iconst (v := (-1)) hx hb dX5_offer_40 (by first | decide | omega) ?_
          exact hj_3339 (-1) _ _ _ ⟨(Rg.wk (lo2 := (-1)) (hi2 := ((L : Int) - 1)) (Rg.c (c := (-1)) (k := (-1)) rfl) (by first | decide | omega)), hP, hD, hS, lv_sub hl [0, 1, 2, 3, 4] rfl⟩
        · have r_3329 : Rg 1 1 x_3324 := Rg.ne c_3327 r_3326 (Rg.c (c := 0) (k := 0) rfl) (by first | decide | omega)
          refine lv_aload_n hx hb dX5_offer_27 rfl (lv_at hl 1 rfl) ?_
          refine lv_iload_n hx hb dX5_offer_28 rfl (lv_at hl 2 rfl) ?_
          refine lv_iconst (v := 1) hx hb dX5_offer_29 (by first | decide | omega) ?_
          refine lv_iload hx hb dX5_offer_30 (lv_at hl 0 rfl) ?_
          refine lv_ishl hx hb dX5_offer_32 ?_
          refine lv_topi (fun x_3475 e_3476 => ?_)
          have r_3477 : Rg 0 128 x_3475 := Rg.shl (ha := 1) (k := 7) e_3476 (Rg.wk (Rg.c (c := 1) (k := 1) rfl) (by first | decide | omega)) (Rg.wk r_3017 (by first | decide | omega)) (by first | decide | omega) (by first | decide | omega)
          refine lv_ixor hx hb dX5_offer_33 ?_
          refine lv_topi (fun x_3478 e_3479 => ?_)
          have hPc := va_P.sub (ws' := [(hh, .inr (4, [.ref ha, .ref po, .ref pr_, .ref pa, .ref pf, .ref p5, .ref p6, .ref p7, .ref p8, .int zs, .int v_274, .ref hl0, .int zo, .int zr, .int zc, .int zl, .int zm, .int zn, .int zf])), (po, .inl ((cs 0), 256, .inl go)), (pr_, .inl ((cs 0), 256, .inl gr)), (p5, .inl ((cs 0), L, .inl g_276))]) hP [0, 1, 2, 4] rfl
          refine cl_P (W.runV (As := [.int x_3478]) (rest := []) ⟨hx, hb, hml, hown, hts⟩ (c_P_placeOf l D cs hh ha po pr_ pa pf p5 p6 p7 p8 zs v_274 zo zr zc zl zm zn zf hl0 L go gr g_276 x_3478 hL r_zs a_go a_gr) ⟨callB_of 1 hts (gd_C qq_4_221) rfl rfl rfl (hT _ qq_1_21) (hT _ qq_4_218) (by decide +kernel) (rm_R rfl rfl), (hT _ qq_4_220), (hT _ qs_1_4)⟩ (pq_V hPc hK hN (ci := 4) (q0 := 0) rfl rfl) rfl rfl hl.1 rfl (lv_room (Nat.le_of_ble_eq_true rfl)) dX5_offer_34 ⟨Nat.le_of_ble_eq_true rfl, Nat.le_of_ble_eq_true rfl⟩) (fun v9 hz_3481 => ?_)
          obtain ⟨x_3480, rfl, r_3482⟩ := hz_3481
          refine lv_goto (tgt := 41) hx hb dX5_offer_37 (by first | decide | omega) ?_
          exact hj_3339 x_3480 _ _ _ ⟨r_3482, hP, hD, hS, lv_sub hl [0, 1, 2, 3, 4] rfl⟩
