theorem dX1_canBeTold_0 : decode cX1_canBeTold 0 = .ok (.iload_n 1, 1) := by decide +kernel
theorem dX1_canBeTold_1 : decode cX1_canBeTold 1 = .ok (.ifCond .lt 24, 3) := by decide +kernel
theorem dX1_canBeTold_25 : decode cX1_canBeTold 25 = .ok (.iconst 0, 1) := by decide +kernel
theorem dX1_canBeTold_26 : decode cX1_canBeTold 26 = .ok (.ireturn, 1) := by decide +kernel
theorem dX1_canBeTold_4 : decode cX1_canBeTold 4 = .ok (.iload_n 1, 1) := by decide +kernel
theorem dX1_canBeTold_5 : decode cX1_canBeTold 5 = .ok (.iconst 5, 1) := by decide +kernel
theorem dX1_canBeTold_6 : decode cX1_canBeTold 6 = .ok (.if_icmp .gt 19, 3) := by decide +kernel
theorem dX1_canBeTold_9 : decode cX1_canBeTold 9 = .ok (.aload_n 0, 1) := by decide +kernel
theorem dX1_canBeTold_10 : decode cX1_canBeTold 10 = .ok (.iload_n 2, 1) := by decide +kernel
theorem dX1_canBeTold_11 : decode cX1_canBeTold 11 = .ok (.invokevirtual 16, 3) := by decide +kernel
theorem qq_3_164 : Cond.code yX2_hasButton cX2_hasButton 2 (some .boolean) ∈ TB := mk_tb (ti_3 (List.mem_of_getElem? (i := 164) rfl)) rfl
theorem qq_5_64 : Cond.methodLink "WrongHole$Folds" 16 yX2_hasButton ∈ TB := mk_tb (ti_5 (List.mem_of_getElem? (i := 64) rfl)) rfl
theorem qq_3_162 : Cond.instanceMethod yX2_hasButton ∈ TB := mk_tb (ti_3 (List.mem_of_getElem? (i := 162) rfl)) rfl
theorem qq_3_163 : Cond.selects "WrongHole$Lift" yX2_hasButton yX2_hasButton ∈ TB := mk_tb (ti_3 (List.mem_of_getElem? (i := 163) rfl)) rfl
theorem dX1_canBeTold_14 : decode cX1_canBeTold 14 = .ok (.ifCond .eq 11, 3) := by decide +kernel
theorem dX1_canBeTold_17 : decode cX1_canBeTold 17 = .ok (.aload_n 0, 1) := by decide +kernel
theorem dX1_canBeTold_18 : decode cX1_canBeTold 18 = .ok (.iload_n 3, 1) := by decide +kernel
theorem dX1_canBeTold_19 : decode cX1_canBeTold 19 = .ok (.invokevirtual 22, 3) := by decide +kernel
theorem qq_3_190 : Cond.code yX2_hasHole cX2_hasHole 2 (some .boolean) ∈ TB := mk_tb (ti_3 (List.mem_of_getElem? (i := 190) rfl)) rfl
theorem qq_5_65 : Cond.methodLink "WrongHole$Folds" 22 yX2_hasHole ∈ TB := mk_tb (ti_5 (List.mem_of_getElem? (i := 65) rfl)) rfl
theorem qq_3_188 : Cond.instanceMethod yX2_hasHole ∈ TB := mk_tb (ti_3 (List.mem_of_getElem? (i := 188) rfl)) rfl
theorem qq_3_189 : Cond.selects "WrongHole$Lift" yX2_hasHole yX2_hasHole ∈ TB := mk_tb (ti_3 (List.mem_of_getElem? (i := 189) rfl)) rfl
theorem dX1_canBeTold_22 : decode cX1_canBeTold 22 = .ok (.ifCond .ne 5, 3) := by decide +kernel
theorem dX1_canBeTold_27 : decode cX1_canBeTold 27 = .ok (.iload_n 1, 1) := by decide +kernel
theorem dX1_canBeTold_28 : decode cX1_canBeTold 28 = .ok (.iconst 1, 1) := by decide +kernel
theorem dX1_canBeTold_29 : decode cX1_canBeTold 29 = .ok (.if_icmp .gt 13, 3) := by decide +kernel
theorem dX1_canBeTold_42 : decode cX1_canBeTold 42 = .ok (.iload_n 1, 1) := by decide +kernel
theorem dX1_canBeTold_43 : decode cX1_canBeTold 43 = .ok (.iconst 3, 1) := by decide +kernel
theorem dX1_canBeTold_44 : decode cX1_canBeTold 44 = .ok (.if_icmp .gt 7, 3) := by decide +kernel
theorem dX1_canBeTold_51 : decode cX1_canBeTold 51 = .ok (.iconst 1, 1) := by decide +kernel
theorem dX1_canBeTold_52 : decode cX1_canBeTold 52 = .ok (.goto 4, 3) := by decide +kernel
theorem dX1_canBeTold_56 : decode cX1_canBeTold 56 = .ok (.ireturn, 1) := by decide +kernel
theorem dX1_canBeTold_47 : decode cX1_canBeTold 47 = .ok (.iload_n 2, 1) := by decide +kernel
theorem dX1_canBeTold_48 : decode cX1_canBeTold 48 = .ok (.ifCond .ne 7, 3) := by decide +kernel
theorem dX1_canBeTold_55 : decode cX1_canBeTold 55 = .ok (.iconst 0, 1) := by decide +kernel
theorem dX1_canBeTold_32 : decode cX1_canBeTold 32 = .ok (.iload_n 3, 1) := by decide +kernel
theorem dX1_canBeTold_33 : decode cX1_canBeTold 33 = .ok (.ifCond .ne 7, 3) := by decide +kernel
theorem dX1_canBeTold_40 : decode cX1_canBeTold 40 = .ok (.iconst 0, 1) := by decide +kernel
theorem dX1_canBeTold_41 : decode cX1_canBeTold 41 = .ok (.ireturn, 1) := by decide +kernel
theorem dX1_canBeTold_36 : decode cX1_canBeTold 36 = .ok (.iconst 1, 1) := by decide +kernel
theorem dX1_canBeTold_37 : decode cX1_canBeTold 37 = .ok (.goto 4, 3) := by decide +kernel
set_option maxHeartbeats 4000000 in
set_option maxRecDepth 100000 in
theorem c_Folds_canBeTold (l : Launch) (D : va_G) (cs : Nat → ClassId) (hl0 : Nat) (lb : Int32) (lh : Int32) (lg : Int32) (lw : Int32) (lv : Int32) (lbs : Int32) (lti : Int32) (lts : Int32) (le : Int32) (lk : Int32) (la : Int32) (l0 : Nat) (l1 : Nat) (l2 : Nat) (l3 : Nat) (l4 : Nat) (l5 : Nat) (l6 : Nat) (l7 : Nat) (x : Int32) (b : Int32) (h : Int32) (r_lb : Rg 0 8 lb) (r_lh : Rg 0 8 lh) (r_le : Rg 0 6 le) : Met l yX1_canBeTold (Cond.code yX1_canBeTold cX1_canBeTold 4 (some .boolean) :: TB) (RM 1 0 0) (va_Pc [.ref hl0, .int x, .int b, .int h] (PRR D cs [(hl0, .inr (2, [.int lb, .int lh, .int lg, .int lw, .int lv, .int lbs, .int lti, .int lts, .int le, .int lk, .int la, .ref l0, .ref l1, .ref l2, .ref l3, .ref l4, .ref l5, .ref l6, .ref l7]))])) (QP (fun v => ∃ x : Int32, v = .int x ∧ Rg 0 1 x)) 0 0 (fun _ => False) := by
  refine MER (y := yX1_canBeTold) (cc := cX1_canBeTold) (maxL := 4) (ret := (some .boolean)) (d := 1) (D := D) (cs := cs) (ws := [(hl0, .inr (2, [.int lb, .int lh, .int lg, .int lw, .int lv, .int lbs, .int lti, .int lts, .int le, .int lk, .int la, .ref l0, .ref l1, .ref l2, .ref l3, .ref l4, .ref l5, .ref l6, .ref l7]))]) (av := [.ref hl0, .int x, .int b, .int h]) (Qc := QP (fun v => ∃ x : Int32, v = .int x ∧ Rg 0 1 x)) (by decide) (Nat.le_of_ble_eq_true rfl) ?_
  intro p e s m below meth c ls H hHe hx hb hr hml hown hts hlocks hP hK hN hl
  obtain ⟨locs, hlc⟩ : ∃ z : List Loc, z = [] := ⟨_, rfl⟩
  rw [← hlc]
  have hown : s.vm.findClass "WrongHole$Folds" = some m.cls := hown
  have hT : ∀ w ∈ TB, w.before ([.ref hl0, .int x, .int b, .int h] : List Value).toArray s = true := fun w h => hts w (List.mem_cons_of_mem _ h)
  have hl : lv_has ls 4 [(0, .ref hl0), (1, .int x), (2, .int b), (3, .int h)] := hl
  have hP : va_P D vwCl [(hl0, .inr (2, [.int lb, .int lh, .int lg, .int lw, .int lv, .int lbs, .int lti, .int lts, .int le, .int lk, .int la, .ref l0, .ref l1, .ref l2, .ref l3, .ref l4, .ref l5, .ref l6, .ref l7]))] H := hP
  refine lv_iload_n hx hb dX1_canBeTold_0 rfl (lv_at hl 1 rfl) ?_
  refine lv_if_lt (tgt := 25) hx hb dX1_canBeTold_1 (by decide) (fun c_1 => ?_) (fun c_1 => ?_)
  · have r_2 : Rg (-2147483648) (-1) x := Rg.lt_l c_1 (Rg.top x) (Rg.c (c := 0) (k := 0) rfl) (by decide)
    refine lv_iconst (v := 0) hx hb dX1_canBeTold_25 (by decide) ?_
    exact W.zret (v := 0) (ty := .boolean) hx hb hr rfl (fun t9 ht9 hW9 => ⟨⟨_, rfl, _, rfl, (Rg.wk (lo2 := 0) (hi2 := 1) (Rg.c (c := 0) (k := 0) rfl) (by decide))⟩, ht9.trans hHe⟩) (fun _ h9 => by rw [hlc] at h9; exact absurd h9 List.not_mem_nil) dX1_canBeTold_26
  · have r_3 : Rg 0 2147483647 x := Rg.le_r (nlt_le c_1) (Rg.c (c := 0) (k := 0) rfl) (Rg.top x) (by decide)
    refine lv_iload_n hx hb dX1_canBeTold_4 rfl (lv_at hl 1 rfl) ?_
    refine lv_iconst (v := 5) hx hb dX1_canBeTold_5 (by decide) ?_
    refine lv_icmp_gt (tgt := 25) hx hb dX1_canBeTold_6 (by decide) (fun c_4 => ?_) (fun c_4 => ?_)
    · have r_5 : Rg 6 2147483647 x := Rg.lt_r c_4 (Rg.c (c := 5) (k := 5) rfl) r_3 (by decide)
      refine lv_iconst (v := 0) hx hb dX1_canBeTold_25 (by decide) ?_
      exact W.zret (v := 0) (ty := .boolean) hx hb hr rfl (fun t9 ht9 hW9 => ⟨⟨_, rfl, _, rfl, (Rg.wk (lo2 := 0) (hi2 := 1) (Rg.c (c := 0) (k := 0) rfl) (by decide))⟩, ht9.trans hHe⟩) (fun _ h9 => by rw [hlc] at h9; exact absurd h9 List.not_mem_nil) dX1_canBeTold_26
    · have r_6 : Rg 0 5 x := Rg.le_l (nlt_le c_4) r_3 (Rg.c (c := 5) (k := 5) rfl) (by decide)
      refine lv_aload_n hx hb dX1_canBeTold_9 rfl (lv_at hl 0 rfl) ?_
      refine lv_iload_n hx hb dX1_canBeTold_10 rfl (lv_at hl 2 rfl) ?_
      have hPc := va_P.sub (ws' := [(hl0, .inr (2, [.int lb, .int lh, .int lg, .int lw, .int lv, .int lbs, .int lti, .int lts, .int le, .int lk, .int la, .ref l0, .ref l1, .ref l2, .ref l3, .ref l4, .ref l5, .ref l6, .ref l7]))]) hP [0] rfl
      refine cl_P (W.runV (As := [.int b]) (rest := []) ⟨hx, hb, hml, hown, hts⟩ (c_Lift_hasButton l D cs hl0 lb lh lg lw lv lbs lti lts le lk la l0 l1 l2 l3 l4 l5 l6 l7 b) ⟨callB_of 1 hts (gd_C qq_3_164) rfl rfl rfl (hT _ qq_1_11) (hT _ qq_5_64) (by decide +kernel) (rm_R rfl rfl), (hT _ qq_3_162), (hT _ qq_3_163)⟩ (pq_V hPc hK hN (ci := 2) (q0 := 0) rfl rfl) rfl rfl hl.1 rfl (lv_room (Nat.le_of_ble_eq_true rfl)) dX1_canBeTold_11 ⟨Nat.le_of_ble_eq_true rfl, Nat.le_of_ble_eq_true rfl⟩) (fun v9 hz_8 => ?_)
      obtain ⟨x_7, rfl, r_9⟩ := hz_8
      refine lv_if_eq (tgt := 25) hx hb dX1_canBeTold_14 (by decide) (fun c_10 => ?_) (fun c_10 => ?_)
      · have r_11 : Rg 0 0 x_7 := Rg.eq_l c_10 r_9.1 (Rg.c (c := 0) (k := 0) rfl) (by decide)
        refine lv_iconst (v := 0) hx hb dX1_canBeTold_25 (by decide) ?_
        exact W.zret (v := 0) (ty := .boolean) hx hb hr rfl (fun t9 ht9 hW9 => ⟨⟨_, rfl, _, rfl, (Rg.wk (lo2 := 0) (hi2 := 1) (Rg.c (c := 0) (k := 0) rfl) (by decide))⟩, ht9.trans hHe⟩) (fun _ h9 => by rw [hlc] at h9; exact absurd h9 List.not_mem_nil) dX1_canBeTold_26
      · have r_12 : Rg 1 1 x_7 := Rg.ne c_10 r_9.1 (Rg.c (c := 0) (k := 0) rfl) (by decide)
        have r_13 : Rg 0 7 b := hb_r (r_9.2 c_10) r_lb (by decide)
        refine lv_aload_n hx hb dX1_canBeTold_17 rfl (lv_at hl 0 rfl) ?_
        refine lv_iload_n hx hb dX1_canBeTold_18 rfl (lv_at hl 3 rfl) ?_
        have hPc := va_P.sub (ws' := [(hl0, .inr (2, [.int lb, .int lh, .int lg, .int lw, .int lv, .int lbs, .int lti, .int lts, .int le, .int lk, .int la, .ref l0, .ref l1, .ref l2, .ref l3, .ref l4, .ref l5, .ref l6, .ref l7]))]) hP [0] rfl
        refine cl_P (W.runV (As := [.int h]) (rest := []) ⟨hx, hb, hml, hown, hts⟩ (c_Lift_hasHole l D cs hl0 lb lh lg lw lv lbs lti lts le lk la l0 l1 l2 l3 l4 l5 l6 l7 h) ⟨callB_of 1 hts (gd_C qq_3_190) rfl rfl rfl (hT _ qq_1_11) (hT _ qq_5_65) (by decide +kernel) (rm_R rfl rfl), (hT _ qq_3_188), (hT _ qq_3_189)⟩ (pq_V hPc hK hN (ci := 2) (q0 := 0) rfl rfl) rfl rfl hl.1 rfl (lv_room (Nat.le_of_ble_eq_true rfl)) dX1_canBeTold_19 ⟨Nat.le_of_ble_eq_true rfl, Nat.le_of_ble_eq_true rfl⟩) (fun v9 hz_15 => ?_)
        obtain ⟨x_14, rfl, r_16⟩ := hz_15
        refine lv_if_ne (tgt := 27) hx hb dX1_canBeTold_22 (by decide) (fun c_17 => ?_) (fun c_17 => ?_)
        · have r_18 : Rg 1 1 x_14 := Rg.ne c_17 r_16.1 (Rg.c (c := 0) (k := 0) rfl) (by decide)
          have r_20 : Rg 0 7 h := hb_r (r_16.2 c_17) r_lh (by decide)
          refine lv_iload_n hx hb dX1_canBeTold_27 rfl (lv_at hl 1 rfl) ?_
          refine lv_iconst (v := 1) hx hb dX1_canBeTold_28 (by decide) ?_
          refine lv_icmp_gt (tgt := 42) hx hb dX1_canBeTold_29 (by decide) (fun c_21 => ?_) (fun c_21 => ?_)
          · have r_22 : Rg 2 5 x := Rg.lt_r c_21 (Rg.c (c := 1) (k := 1) rfl) r_6 (by decide)
            refine lv_iload_n hx hb dX1_canBeTold_42 rfl (lv_at hl 1 rfl) ?_
            refine lv_iconst (v := 3) hx hb dX1_canBeTold_43 (by decide) ?_
            refine lv_icmp_gt (tgt := 51) hx hb dX1_canBeTold_44 (by decide) (fun c_24 => ?_) (fun c_24 => ?_)
            · have r_25 : Rg 4 5 x := Rg.lt_r c_24 (Rg.c (c := 3) (k := 3) rfl) r_22 (by decide)
              refine lv_iconst (v := 1) hx hb dX1_canBeTold_51 (by decide) ?_
              refine lv_goto (tgt := 56) hx hb dX1_canBeTold_52 (by decide) ?_
              exact W.zret (v := 1) (ty := .boolean) hx hb hr rfl (fun t9 ht9 hW9 => ⟨⟨_, rfl, _, rfl, (Rg.wk (lo2 := 0) (hi2 := 1) (Rg.c (c := 1) (k := 1) rfl) (by decide))⟩, ht9.trans hHe⟩) (fun _ h9 => by rw [hlc] at h9; exact absurd h9 List.not_mem_nil) dX1_canBeTold_56
            · have r_26 : Rg 2 3 x := Rg.le_l (nlt_le c_24) r_22 (Rg.c (c := 3) (k := 3) rfl) (by decide)
              refine lv_iload_n hx hb dX1_canBeTold_47 rfl (lv_at hl 2 rfl) ?_
              refine lv_if_ne (tgt := 55) hx hb dX1_canBeTold_48 (by decide) (fun c_30 => ?_) (fun c_30 => ?_)
              · have r_31 : Rg 1 7 b := Rg.ne c_30 r_13 (Rg.c (c := 0) (k := 0) rfl) (by decide)
                refine lv_iconst (v := 0) hx hb dX1_canBeTold_55 (by decide) ?_
                exact W.zret (v := 0) (ty := .boolean) hx hb hr rfl (fun t9 ht9 hW9 => ⟨⟨_, rfl, _, rfl, (Rg.wk (lo2 := 0) (hi2 := 1) (Rg.c (c := 0) (k := 0) rfl) (by decide))⟩, ht9.trans hHe⟩) (fun _ h9 => by rw [hlc] at h9; exact absurd h9 List.not_mem_nil) dX1_canBeTold_56
              · have r_32 : Rg 0 0 b := Rg.eq_l c_30 r_13 (Rg.c (c := 0) (k := 0) rfl) (by decide)
                refine lv_iconst (v := 1) hx hb dX1_canBeTold_51 (by decide) ?_
                refine lv_goto (tgt := 56) hx hb dX1_canBeTold_52 (by decide) ?_
                exact W.zret (v := 1) (ty := .boolean) hx hb hr rfl (fun t9 ht9 hW9 => ⟨⟨_, rfl, _, rfl, (Rg.wk (lo2 := 0) (hi2 := 1) (Rg.c (c := 1) (k := 1) rfl) (by decide))⟩, ht9.trans hHe⟩) (fun _ h9 => by rw [hlc] at h9; exact absurd h9 List.not_mem_nil) dX1_canBeTold_56
          · have r_23 : Rg 0 1 x := Rg.le_l (nlt_le c_21) r_6 (Rg.c (c := 1) (k := 1) rfl) (by decide)
            refine lv_iload_n hx hb dX1_canBeTold_32 rfl (lv_at hl 3 rfl) ?_
            refine lv_if_ne (tgt := 40) hx hb dX1_canBeTold_33 (by decide) (fun c_33 => ?_) (fun c_33 => ?_)
            · have r_34 : Rg 1 7 h := Rg.ne c_33 r_20 (Rg.c (c := 0) (k := 0) rfl) (by decide)
              refine lv_iconst (v := 0) hx hb dX1_canBeTold_40 (by decide) ?_
              exact W.zret (v := 0) (ty := .boolean) hx hb hr rfl (fun t9 ht9 hW9 => ⟨⟨_, rfl, _, rfl, (Rg.wk (lo2 := 0) (hi2 := 1) (Rg.c (c := 0) (k := 0) rfl) (by decide))⟩, ht9.trans hHe⟩) (fun _ h9 => by rw [hlc] at h9; exact absurd h9 List.not_mem_nil) dX1_canBeTold_41
            · have r_35 : Rg 0 0 h := Rg.eq_l c_33 r_20 (Rg.c (c := 0) (k := 0) rfl) (by decide)
              refine lv_iconst (v := 1) hx hb dX1_canBeTold_36 (by decide) ?_
              refine lv_goto (tgt := 41) hx hb dX1_canBeTold_37 (by decide) ?_
              exact W.zret (v := 1) (ty := .boolean) hx hb hr rfl (fun t9 ht9 hW9 => ⟨⟨_, rfl, _, rfl, (Rg.wk (lo2 := 0) (hi2 := 1) (Rg.c (c := 1) (k := 1) rfl) (by decide))⟩, ht9.trans hHe⟩) (fun _ h9 => by rw [hlc] at h9; exact absurd h9 List.not_mem_nil) dX1_canBeTold_41
        · have r_19 : Rg 0 0 x_14 := Rg.eq_l c_17 r_16.1 (Rg.c (c := 0) (k := 0) rfl) (by decide)
          refine lv_iconst (v := 0) hx hb dX1_canBeTold_25 (by decide) ?_
          exact W.zret (v := 0) (ty := .boolean) hx hb hr rfl (fun t9 ht9 hW9 => ⟨⟨_, rfl, _, rfl, (Rg.wk (lo2 := 0) (hi2 := 1) (Rg.c (c := 0) (k := 0) rfl) (by decide))⟩, ht9.trans hHe⟩) (fun _ h9 => by rw [hlc] at h9; exact absurd h9 List.not_mem_nil) dX1_canBeTold_26
theorem dX1_smooth_0 : decode cX1_smooth 0 = .ok (.aload_n 0, 1) := by decide +kernel
theorem dX1_smooth_1 : decode cX1_smooth 1 = .ok (.aload_n 1, 1) := by decide +kernel
theorem dX1_smooth_2 : decode cX1_smooth 2 = .ok (.getfield 25, 3) := by decide +kernel
theorem nq_2_31 : Cond.fieldLinkNest "WrongHole$Folds" 25 "WrongHole$Lift" "buttons" "I" "WrongHole" ∈ NW := mk_nw (ti_2 (List.mem_of_getElem? (i := 31) rfl)) rfl
theorem dX1_smooth_5 : decode cX1_smooth 5 = .ok (.putfield 29, 3) := by decide +kernel
theorem qq_1_185 : Cond.fieldLink "WrongHole$Folds" 29 "WrongHole$Folds" "buttons" "I" ∈ TB := mk_tb (ti_1 (List.mem_of_getElem? (i := 185) rfl)) rfl
theorem iq_RX1 (cd : Cond) : ∀ w ∈ u_ws RX1 TX1 6, w ∈ cd :: TB := by
  intro w hw
  obtain ⟨k, hk, rfl⟩ := List.mem_map.mp hw
  have hk := List.mem_range.mp hk
  refine List.mem_cons_of_mem _ ?_
  match k, hk with
  | 0, _ => exact mk_tb (ti_1 (List.mem_of_getElem? (i := 189) rfl)) rfl
  | 1, _ => exact mk_tb (ti_1 (List.mem_of_getElem? (i := 191) rfl)) rfl
  | 2, _ => exact mk_tb (ti_1 (List.mem_of_getElem? (i := 193) rfl)) rfl
  | 3, _ => exact mk_tb (ti_1 (List.mem_of_getElem? (i := 195) rfl)) rfl
  | 4, _ => exact mk_tb (ti_1 (List.mem_of_getElem? (i := 197) rfl)) rfl
  | 5, _ => exact mk_tb (ti_1 (List.mem_of_getElem? (i := 199) rfl)) rfl
  | n + 6, h => exact absurd h (by omega)
theorem dX1_smooth_8 : decode cX1_smooth 8 = .ok (.aload_n 0, 1) := by decide +kernel
theorem dX1_smooth_9 : decode cX1_smooth 9 = .ok (.aload_n 1, 1) := by decide +kernel
theorem dX1_smooth_10 : decode cX1_smooth 10 = .ok (.getfield 30, 3) := by decide +kernel
theorem nq_2_36 : Cond.fieldLinkNest "WrongHole$Folds" 30 "WrongHole$Lift" "holes" "I" "WrongHole" ∈ NW := mk_nw (ti_2 (List.mem_of_getElem? (i := 36) rfl)) rfl
theorem dX1_smooth_13 : decode cX1_smooth 13 = .ok (.putfield 33, 3) := by decide +kernel
theorem qq_1_186 : Cond.fieldLink "WrongHole$Folds" 33 "WrongHole$Folds" "holes" "I" ∈ TB := mk_tb (ti_1 (List.mem_of_getElem? (i := 186) rfl)) rfl
theorem dX1_smooth_16 : decode cX1_smooth 16 = .ok (.aload_n 0, 1) := by decide +kernel
theorem dX1_smooth_17 : decode cX1_smooth 17 = .ok (.iconst 0, 1) := by decide +kernel
theorem dX1_smooth_18 : decode cX1_smooth 18 = .ok (.putfield 34, 3) := by decide +kernel
theorem qq_1_187 : Cond.fieldLink "WrongHole$Folds" 34 "WrongHole$Folds" "mustBeIn" "I" ∈ TB := mk_tb (ti_1 (List.mem_of_getElem? (i := 187) rfl)) rfl
theorem dX1_smooth_21 : decode cX1_smooth 21 = .ok (.aload_n 0, 1) := by decide +kernel
theorem dX1_smooth_22 : decode cX1_smooth 22 = .ok (.iconst 0, 1) := by decide +kernel
theorem dX1_smooth_23 : decode cX1_smooth 23 = .ok (.putfield 37, 3) := by decide +kernel
theorem qq_1_188 : Cond.fieldLink "WrongHole$Folds" 37 "WrongHole$Folds" "mustBeHeld" "I" ∈ TB := mk_tb (ti_1 (List.mem_of_getElem? (i := 188) rfl)) rfl
theorem dX1_smooth_26 : decode cX1_smooth 26 = .ok (.iconst 0, 1) := by decide +kernel
theorem dX1_smooth_27 : decode cX1_smooth 27 = .ok (.istore_n 2, 1) := by decide +kernel
theorem dX1_smooth_28 : decode cX1_smooth 28 = .ok (.iload_n 2, 1) := by decide +kernel
theorem dX1_smooth_29 : decode cX1_smooth 29 = .ok (.aload_n 0, 1) := by decide +kernel
theorem dX1_smooth_30 : decode cX1_smooth 30 = .ok (.getfield 29, 3) := by decide +kernel
theorem dX1_smooth_33 : decode cX1_smooth 33 = .ok (.if_icmp .ge 63, 3) := by decide +kernel
theorem dX1_smooth_96 : decode cX1_smooth 96 = .ok (.return_, 1) := by decide +kernel
theorem dX1_smooth_36 : decode cX1_smooth 36 = .ok (.aload_n 0, 1) := by decide +kernel
theorem dX1_smooth_37 : decode cX1_smooth 37 = .ok (.getfield 7, 3) := by decide +kernel
theorem qq_1_183 : Cond.fieldLink "WrongHole$Folds" 7 "WrongHole$Folds" "possible" "[I" ∈ TB := mk_tb (ti_1 (List.mem_of_getElem? (i := 183) rfl)) rfl
theorem dX1_smooth_40 : decode cX1_smooth 40 = .ok (.iload_n 2, 1) := by decide +kernel
theorem dX1_smooth_41 : decode cX1_smooth 41 = .ok (.iconst 0, 1) := by decide +kernel
theorem dX1_smooth_42 : decode cX1_smooth 42 = .ok (.iastore, 1) := by decide +kernel
theorem dX1_smooth_43 : decode cX1_smooth 43 = .ok (.iconst 0, 1) := by decide +kernel
theorem dX1_smooth_44 : decode cX1_smooth 44 = .ok (.istore_n 3, 1) := by decide +kernel
theorem dX1_smooth_45 : decode cX1_smooth 45 = .ok (.iload_n 3, 1) := by decide +kernel
theorem dX1_smooth_46 : decode cX1_smooth 46 = .ok (.aload_n 0, 1) := by decide +kernel
theorem dX1_smooth_47 : decode cX1_smooth 47 = .ok (.getfield 33, 3) := by decide +kernel
theorem dX1_smooth_50 : decode cX1_smooth 50 = .ok (.if_icmp .ge 40, 3) := by decide +kernel
theorem dX1_smooth_90 : decode cX1_smooth 90 = .ok (.iinc 2 1, 3) := by decide +kernel
theorem dX1_smooth_93 : decode cX1_smooth 93 = .ok (.goto (-65), 3) := by decide +kernel
theorem dX1_smooth_53 : decode cX1_smooth 53 = .ok (.aload_n 0, 1) := by decide +kernel
theorem dX1_smooth_54 : decode cX1_smooth 54 = .ok (.getfield 7, 3) := by decide +kernel
theorem dX1_smooth_57 : decode cX1_smooth 57 = .ok (.iload_n 2, 1) := by decide +kernel
theorem dX1_smooth_58 : decode cX1_smooth 58 = .ok (.dup2, 1) := by decide +kernel
theorem dX1_smooth_59 : decode cX1_smooth 59 = .ok (.iaload, 1) := by decide +kernel
theorem dX1_smooth_60 : decode cX1_smooth 60 = .ok (.aload_n 1, 1) := by decide +kernel
theorem dX1_smooth_61 : decode cX1_smooth 61 = .ok (.getfield 40, 3) := by decide +kernel
theorem nq_2_65 : Cond.fieldLinkNest "WrongHole$Folds" 40 "WrongHole$Lift" "sorts" "[I" "WrongHole" ∈ NW := mk_nw (ti_2 (List.mem_of_getElem? (i := 65) rfl)) rfl
theorem dX1_smooth_64 : decode cX1_smooth 64 = .ok (.iload_n 2, 1) := by decide +kernel
theorem dX1_smooth_65 : decode cX1_smooth 65 = .ok (.iaload, 1) := by decide +kernel
theorem dX1_smooth_66 : decode cX1_smooth 66 = .ok (.aload_n 1, 1) := by decide +kernel
theorem dX1_smooth_67 : decode cX1_smooth 67 = .ok (.getfield 43, 3) := by decide +kernel
theorem nq_2_69 : Cond.fieldLinkNest "WrongHole$Folds" 43 "WrongHole$Lift" "takes" "[I" "WrongHole" ∈ NW := mk_nw (ti_2 (List.mem_of_getElem? (i := 69) rfl)) rfl
theorem dX1_smooth_70 : decode cX1_smooth 70 = .ok (.iload_n 3, 1) := by decide +kernel
theorem dX1_smooth_71 : decode cX1_smooth 71 = .ok (.iaload, 1) := by decide +kernel
theorem dX1_smooth_72 : decode cX1_smooth 72 = .ok (.if_icmp .ne 9, 3) := by decide +kernel
theorem dX1_smooth_82 : decode cX1_smooth 82 = .ok (.ior, 1) := by decide +kernel
theorem dX1_smooth_83 : decode cX1_smooth 83 = .ok (.iastore, 1) := by decide +kernel
theorem dX1_smooth_84 : decode cX1_smooth 84 = .ok (.iinc 3 1, 3) := by decide +kernel
theorem dX1_smooth_87 : decode cX1_smooth 87 = .ok (.goto (-42), 3) := by decide +kernel
theorem dX1_smooth_81 : decode cX1_smooth 81 = .ok (.iconst 0, 1) := by decide +kernel
theorem dX1_smooth_75 : decode cX1_smooth 75 = .ok (.iconst 1, 1) := by decide +kernel
theorem dX1_smooth_76 : decode cX1_smooth 76 = .ok (.iload_n 3, 1) := by decide +kernel
theorem dX1_smooth_77 : decode cX1_smooth 77 = .ok (.ishl, 1) := by decide +kernel
theorem dX1_smooth_78 : decode cX1_smooth 78 = .ok (.goto 4, 3) := by decide +kernel
set_option maxHeartbeats 4000000 in
set_option maxRecDepth 100000 in
theorem c_Folds_smooth (l : Launch) (D : va_G) (cs : Nat → ClassId) (X : XX) (sz : Nat) (hf : Nat) (fp : Nat) (ft : Nat) (fb : Int32) (fh : Int32) (fm : Int32) (fd : Int32) (fpo : Nat → Int32) (fta : Nat → Int32) (hl0 : Nat) (lb : Int32) (lh : Int32) (lg : Int32) (lw : Int32) (lv : Int32) (lbs : Int32) (lti : Int32) (lts : Int32) (le : Int32) (lk : Int32) (la : Int32) (l0 : Nat) (l1 : Nat) (l2 : Nat) (l3 : Nat) (l4 : Nat) (l5 : Nat) (l6 : Nat) (l7 : Nat) (f0 : Nat → Int32) (f1 : Nat → Int32) (r_fb : Rg 0 8 fb) (r_fh : Rg 0 8 fh) (r_lb : Rg 0 8 lb) (r_lh : Rg 0 8 lh) (r_le : Rg 0 6 le) : Met l yX1_smooth (Cond.code yX1_smooth cX1_smooth 4 none :: TB) (RM 0 0 0) (va_Pc [.ref hf, .ref hl0] (PRE D cs X [(hf, .inr (1, [.ref fp, .ref ft, .int fb, .int fh, .int fm, .int fd])), (fp, .inl ((cs 0), 8, .inl fpo)), (ft, .inl ((cs 0), 81, .inl fta))] [(hl0, .inr (2, [.int lb, .int lh, .int lg, .int lw, .int lv, .int lbs, .int lti, .int lts, .int le, .int lk, .int la, .ref l0, .ref l1, .ref l2, .ref l3, .ref l4, .ref l5, .ref l6, .ref l7])), (l0, .inl ((cs 0), 8, .inl f0)), (l1, .inl ((cs 0), 8, .inl f1))] sz)) (va_Qv (S := Unit) (fun _ => True) (fun _ t => ∃ (fb2 : Int32), ∃ (fh2 : Int32), ∃ (fm2 : Int32), ∃ (fd2 : Int32), ∃ (fpo2 : Nat → Int32), ∃ (fta2 : Nat → Int32), Rg 0 8 fb2 ∧ Rg 0 8 fh2 ∧ va_P D vwCl [(hf, .inr (1, [.ref fp, .ref ft, .int fb2, .int fh2, .int fm2, .int fd2])), (fp, .inl ((cs 0), 8, .inl fpo2)), (ft, .inl ((cs 0), 81, .inl fta2))] t.heap ∧ va_D (va_A [(hf, .inr (1, [.ref fp, .ref ft, .int fb, .int fh, .int fm, .int fd])), (fp, .inl ((cs 0), 8, .inl fpo)), (ft, .inl ((cs 0), 81, .inl fta))] sz) [(hf, .inr (1, [.ref fp, .ref ft, .int fb2, .int fh2, .int fm2, .int fd2])), (fp, .inl ((cs 0), 8, .inl fpo2)), (ft, .inl ((cs 0), 81, .inl fta2))]) (va_A [(hf, .inr (1, [.ref fp, .ref ft, .int fb, .int fh, .int fm, .int fd])), (fp, .inl ((cs 0), 8, .inl fpo)), (ft, .inl ((cs 0), 81, .inl fta))] sz)) 0 0 (va_A [(hf, .inr (1, [.ref fp, .ref ft, .int fb, .int fh, .int fm, .int fd])), (fp, .inl ((cs 0), 8, .inl fpo)), (ft, .inl ((cs 0), 81, .inl fta))] sz) := by
  refine MET (y := yX1_smooth) (cc := cX1_smooth) (maxL := 4) (ret := none) (d := 0) (mc := 0) (ms := 0) (D := D) (cs := cs) (X := X) (ws := [(hf, .inr (1, [.ref fp, .ref ft, .int fb, .int fh, .int fm, .int fd])), (fp, .inl ((cs 0), 8, .inl fpo)), (ft, .inl ((cs 0), 81, .inl fta))]) (wo := [(hl0, .inr (2, [.int lb, .int lh, .int lg, .int lw, .int lv, .int lbs, .int lti, .int lts, .int le, .int lk, .int la, .ref l0, .ref l1, .ref l2, .ref l3, .ref l4, .ref l5, .ref l6, .ref l7])), (l0, .inl ((cs 0), 8, .inl f0)), (l1, .inl ((cs 0), 8, .inl f1))]) (sz := sz) (av := [.ref hf, .ref hl0]) (Qc := fun A => va_Qv (S := Unit) (fun _ => True) (fun _ t => ∃ (fb2 : Int32), ∃ (fh2 : Int32), ∃ (fm2 : Int32), ∃ (fd2 : Int32), ∃ (fpo2 : Nat → Int32), ∃ (fta2 : Nat → Int32), Rg 0 8 fb2 ∧ Rg 0 8 fh2 ∧ va_P D vwCl [(hf, .inr (1, [.ref fp, .ref ft, .int fb2, .int fh2, .int fm2, .int fd2])), (fp, .inl ((cs 0), 8, .inl fpo2)), (ft, .inl ((cs 0), 81, .inl fta2))] t.heap ∧ va_D A [(hf, .inr (1, [.ref fp, .ref ft, .int fb2, .int fh2, .int fm2, .int fd2])), (fp, .inl ((cs 0), 8, .inl fpo2)), (ft, .inl ((cs 0), 81, .inl fta2))]) A) (by decide) (Nat.le_of_ble_eq_true rfl) ?_
  intro p e s m below meth c ls A H hHe hx hb hr hml hown hts hlocks hnm hP hK hD hA hS hN hR hX hXs hl
  have hD : va_D A [(hf, .inr (1, [.ref fp, .ref ft, .int fb, .int fh, .int fm, .int fd])), (fp, .inl ((cs 0), 8, .inl fpo)), (ft, .inl ((cs 0), 81, .inl fta))] := hD
  have hPo := hR.at hS
  obtain ⟨locs, hlc⟩ : ∃ z : List Loc, z = [] := ⟨_, rfl⟩
  rw [← hlc] at hS ⊢
  have hown : s.vm.findClass "WrongHole$Folds" = some m.cls := hown
  have hT : ∀ w ∈ TB, w.before ([.ref hf, .ref hl0] : List Value).toArray s = true := fun w h => hts w (List.mem_cons_of_mem _ h)
  have hl : lv_has ls 4 [(0, .ref hf), (1, .ref hl0)] := hl
  have hP : va_P D vwCl [(hf, .inr (1, [.ref fp, .ref ft, .int fb, .int fh, .int fm, .int fd])), (fp, .inl ((cs 0), 8, .inl fpo)), (ft, .inl ((cs 0), 81, .inl fta))] H := hP
  refine lv_aload_n hx hb dX1_smooth_0 rfl (lv_at hl 0 rfl) ?_
  refine lv_aload_n hx hb dX1_smooth_1 rfl (lv_at hl 1 rfl) ?_
  refine va_getN (D := D) (ci := 2) (v := .int lb) (C := "WrongHole$Lift") (T := TX2) (N := 19) hx hb hts (iq_RX2 _) hown hK hPo 0 rfl rfl 0 (by decide) (NN.f hN nq_2_31) (fun _ h9 => h9) rfl dX1_smooth_2 ?_
  refine va_put (D := D) (ci := 1) (v := .int lb) (ty := .int) (C := "WrongHole$Folds") (T := TX1) (N := 6) hx hb hts (iq_RX1 _) tyX1 tyX1_ok nmX1 hown hK hP hD hS 0 rfl rfl 2 (by decide) (hT _ qq_1_185) (fun _ h9 => h9) rfl (by decide +kernel) rfl rfl (Nat.le_of_ble_eq_true rfl) dX1_smooth_5 (fun H locs hP hD hS => ?_)
  have hP : va_P D vwCl [(hf, .inr (1, [.ref fp, .ref ft, .int lb, .int fh, .int fm, .int fd])), (fp, .inl ((cs 0), 8, .inl fpo)), (ft, .inl ((cs 0), 81, .inl fta))] H := hP
  have hD : va_D A [(hf, .inr (1, [.ref fp, .ref ft, .int lb, .int fh, .int fm, .int fd])), (fp, .inl ((cs 0), 8, .inl fpo)), (ft, .inl ((cs 0), 81, .inl fta))] := hD
  have hPo := hR.at hS
  refine lv_aload_n hx hb dX1_smooth_8 rfl (lv_at hl 0 rfl) ?_
  refine lv_aload_n hx hb dX1_smooth_9 rfl (lv_at hl 1 rfl) ?_
  refine va_getN (D := D) (ci := 2) (v := .int lh) (C := "WrongHole$Lift") (T := TX2) (N := 19) hx hb hts (iq_RX2 _) hown hK hPo 0 rfl rfl 1 (by decide) (NN.f hN nq_2_36) (fun _ h9 => h9) rfl dX1_smooth_10 ?_
  refine va_put (D := D) (ci := 1) (v := .int lh) (ty := .int) (C := "WrongHole$Folds") (T := TX1) (N := 6) hx hb hts (iq_RX1 _) tyX1 tyX1_ok nmX1 hown hK hP hD hS 0 rfl rfl 3 (by decide) (hT _ qq_1_186) (fun _ h9 => h9) rfl (by decide +kernel) rfl rfl (Nat.le_of_ble_eq_true rfl) dX1_smooth_13 (fun H locs hP hD hS => ?_)
  have hP : va_P D vwCl [(hf, .inr (1, [.ref fp, .ref ft, .int lb, .int lh, .int fm, .int fd])), (fp, .inl ((cs 0), 8, .inl fpo)), (ft, .inl ((cs 0), 81, .inl fta))] H := hP
  have hD : va_D A [(hf, .inr (1, [.ref fp, .ref ft, .int lb, .int lh, .int fm, .int fd])), (fp, .inl ((cs 0), 8, .inl fpo)), (ft, .inl ((cs 0), 81, .inl fta))] := hD
  have hPo := hR.at hS
  refine lv_aload_n hx hb dX1_smooth_16 rfl (lv_at hl 0 rfl) ?_
  refine lv_iconst (v := 0) hx hb dX1_smooth_17 (by decide) ?_
  refine va_put (D := D) (ci := 1) (v := .int 0) (ty := .int) (C := "WrongHole$Folds") (T := TX1) (N := 6) hx hb hts (iq_RX1 _) tyX1 tyX1_ok nmX1 hown hK hP hD hS 0 rfl rfl 4 (by decide) (hT _ qq_1_187) (fun _ h9 => h9) rfl (by decide +kernel) rfl rfl (Nat.le_of_ble_eq_true rfl) dX1_smooth_18 (fun H locs hP hD hS => ?_)
  have hP : va_P D vwCl [(hf, .inr (1, [.ref fp, .ref ft, .int lb, .int lh, .int 0, .int fd])), (fp, .inl ((cs 0), 8, .inl fpo)), (ft, .inl ((cs 0), 81, .inl fta))] H := hP
  have hD : va_D A [(hf, .inr (1, [.ref fp, .ref ft, .int lb, .int lh, .int 0, .int fd])), (fp, .inl ((cs 0), 8, .inl fpo)), (ft, .inl ((cs 0), 81, .inl fta))] := hD
  have hPo := hR.at hS
  refine lv_aload_n hx hb dX1_smooth_21 rfl (lv_at hl 0 rfl) ?_
  refine lv_iconst (v := 0) hx hb dX1_smooth_22 (by decide) ?_
  refine va_put (D := D) (ci := 1) (v := .int 0) (ty := .int) (C := "WrongHole$Folds") (T := TX1) (N := 6) hx hb hts (iq_RX1 _) tyX1 tyX1_ok nmX1 hown hK hP hD hS 0 rfl rfl 5 (by decide) (hT _ qq_1_188) (fun _ h9 => h9) rfl (by decide +kernel) rfl rfl (Nat.le_of_ble_eq_true rfl) dX1_smooth_23 (fun H locs hP hD hS => ?_)
  have hP : va_P D vwCl [(hf, .inr (1, [.ref fp, .ref ft, .int lb, .int lh, .int 0, .int 0])), (fp, .inl ((cs 0), 8, .inl fpo)), (ft, .inl ((cs 0), 81, .inl fta))] H := hP
  have hD : va_D A [(hf, .inr (1, [.ref fp, .ref ft, .int lb, .int lh, .int 0, .int 0])), (fp, .inl ((cs 0), 8, .inl fpo)), (ft, .inl ((cs 0), 81, .inl fta))] := hD
  have hPo := hR.at hS
  refine lv_iconst (v := 0) hx hb dX1_smooth_26 (by decide) ?_
  refine lv_istore_n (lv' := [(2, .int 0), (0, .ref hf), (1, .ref hl0)]) hx hb dX1_smooth_27 rfl hl (by decide) rfl (fun ls hl => ?_)
  refine w_wh (σ := (Int32) × (Nat → Int32)) (fun x9 H locs ls => match x9 with | (v_834, g_835) => Rg 0 8 v_834 ∧ va_P D vwCl [(hf, .inr (1, [.ref fp, .ref ft, .int lb, .int lh, .int 0, .int 0])), (fp, .inl ((cs 0), 8, .inl g_835)), (ft, .inl ((cs 0), 81, .inl fta))] H ∧ va_D A [(hf, .inr (1, [.ref fp, .ref ft, .int lb, .int lh, .int 0, .int 0])), (fp, .inl ((cs 0), 8, .inl g_835)), (ft, .inl ((cs 0), 81, .inl fta))] ∧ va_S A s.heap H locs ∧ lv_has ls 4 [(2, .int v_834), (0, .ref hf), (1, .ref hl0)]) (fun x9 => match x9 with | (v_834, g_835) => (8 - Int32.toInt v_834).toNat) 28 ?_ (0, fpo) H locs ls ⟨(Rg.wk (lo2 := 0) (hi2 := 8) (Rg.c (c := 0) (k := 0) rfl) (by decide)), hP, hD, hS, lv_sub hl [0, 1, 2] rfl⟩
  rintro ⟨v_834, g_835⟩ H locs ls ⟨r_7981, hP, hD, hS, hl⟩ ih_7980
  have hPo := hR.at hS
  refine lv_iload_n hx hb dX1_smooth_28 rfl (lv_at hl 0 rfl) ?_
  refine lv_aload_n hx hb dX1_smooth_29 rfl (lv_at hl 1 rfl) ?_
  refine va_get (D := D) (ci := 1) (v := .int lb) (C := "WrongHole$Folds") (T := TX1) (N := 6) hx hb hts (iq_RX1 _) hown hK hP 0 rfl rfl 2 (by decide) (hT _ qq_1_185) (fun _ h9 => h9) rfl dX1_smooth_30 ?_
  refine lv_icmp_ge (tgt := 96) hx hb dX1_smooth_33 (by decide) (fun c_7982 => ?_) (fun c_7982 => ?_)
  · refine W.widen (k := 0) (n := 0) (Nat.le_of_ble_eq_true rfl) (Nat.le_of_ble_eq_true rfl) ?_
    have hP9 := hP.sub (ws' := [(hf, .inr (1, [.ref fp, .ref ft, .int lb, .int lh, .int 0, .int 0])), (fp, .inl ((cs 0), 8, .inl g_835)), (ft, .inl ((cs 0), 81, .inl fta))]) [0, 1, 2] rfl
    have hD9 := hD.sub (ws' := [(hf, .inr (1, [.ref fp, .ref ft, .int lb, .int lh, .int 0, .int 0])), (fp, .inl ((cs 0), 8, .inl g_835)), (ft, .inl ((cs 0), 81, .inl fta))]) [0, 1, 2] (by decide) rfl
    exact W.vret hx hb hr (fun t9 ht9 hW9 => ⟨⟨(), rfl, trivial, ⟨lb, lh, 0, 0, g_835, fta, r_lb, r_lh, by rw [ht9]; exact hP9, hD9⟩⟩, hS.F ht9⟩) hS.2.2 dX1_smooth_96
  · have r_7983 : Rg 0 7 v_834 := Rg.lt_l (nle_lt c_7982) r_7981 r_lb (by decide)
    have r_7984 : Rg 1 8 lb := Rg.lt_r (nle_lt c_7982) r_7981 r_lb (by decide)
    refine lv_aload_n hx hb dX1_smooth_36 rfl (lv_at hl 1 rfl) ?_
    refine va_get (D := D) (ci := 1) (v := .ref fp) (C := "WrongHole$Folds") (T := TX1) (N := 6) hx hb hts (iq_RX1 _) hown hK hP 0 rfl rfl 0 (by decide) (hT _ qq_1_183) (fun _ h9 => h9) rfl dX1_smooth_37 ?_
    refine lv_iload_n hx hb dX1_smooth_40 rfl (lv_at hl 0 rfl) ?_
    refine lv_iconst (v := 0) hx hb dX1_smooth_41 (by decide) ?_
    have hi_8430 : vp_in v_834 8 := Rg.in r_7983 (by decide)
    refine va_iast hx hb hK hP hD hS 1 0 rfl rfl hi_8430 dX1_smooth_42 (fun H locs hP hD hS => ?_)
    obtain ⟨g_8431, hP, hD⟩ : ∃ g_8431 : Nat → Int32, va_P D vwCl [(hf, .inr (1, [.ref fp, .ref ft, .int lb, .int lh, .int 0, .int 0])), (fp, .inl ((cs 0), 8, .inl g_8431)), (ft, .inl ((cs 0), 81, .inl fta))] H ∧ va_D A [(hf, .inr (1, [.ref fp, .ref ft, .int lb, .int lh, .int 0, .int 0])), (fp, .inl ((cs 0), 8, .inl g_8431)), (ft, .inl ((cs 0), 81, .inl fta))] := ⟨_, hP, hD⟩
    have hPo := hR.at hS
    refine lv_iconst (v := 0) hx hb dX1_smooth_43 (by decide) ?_
    refine lv_istore_n (lv' := [(3, .int 0), (2, .int v_834), (0, .ref hf), (1, .ref hl0)]) hx hb dX1_smooth_44 rfl hl (by decide) rfl (fun ls hl => ?_)
    refine w_wh (σ := (Int32) × (Nat → Int32)) (fun x9 H locs ls => match x9 with | (v_8460, g_8461) => Rg 0 8 v_8460 ∧ va_P D vwCl [(hf, .inr (1, [.ref fp, .ref ft, .int lb, .int lh, .int 0, .int 0])), (fp, .inl ((cs 0), 8, .inl g_8461)), (ft, .inl ((cs 0), 81, .inl fta))] H ∧ va_D A [(hf, .inr (1, [.ref fp, .ref ft, .int lb, .int lh, .int 0, .int 0])), (fp, .inl ((cs 0), 8, .inl g_8461)), (ft, .inl ((cs 0), 81, .inl fta))] ∧ va_S A s.heap H locs ∧ lv_has ls 4 [(3, .int v_8460), (2, .int v_834), (0, .ref hf), (1, .ref hl0)]) (fun x9 => match x9 with | (v_8460, g_8461) => (8 - Int32.toInt v_8460).toNat) 45 ?_ (0, g_8431) H locs ls ⟨(Rg.wk (lo2 := 0) (hi2 := 8) (Rg.c (c := 0) (k := 0) rfl) (by decide)), hP, hD, hS, lv_sub hl [0, 1, 2, 3] rfl⟩
    rintro ⟨v_8460, g_8461⟩ H locs ls ⟨r_8831, hP, hD, hS, hl⟩ ih_8830
    have hPo := hR.at hS
    refine lv_iload_n hx hb dX1_smooth_45 rfl (lv_at hl 0 rfl) ?_
    refine lv_aload_n hx hb dX1_smooth_46 rfl (lv_at hl 2 rfl) ?_
    refine va_get (D := D) (ci := 1) (v := .int lh) (C := "WrongHole$Folds") (T := TX1) (N := 6) hx hb hts (iq_RX1 _) hown hK hP 0 rfl rfl 3 (by decide) (hT _ qq_1_186) (fun _ h9 => h9) rfl dX1_smooth_47 ?_
    refine lv_icmp_ge (tgt := 90) hx hb dX1_smooth_50 (by decide) (fun c_8832 => ?_) (fun c_8832 => ?_)
    · obtain ⟨x_8855, e_8856⟩ : ∃ z : Int32, z = v_834 + Int32.ofInt 1 := ⟨_, rfl⟩
      have r_8857 : Rg 1 8 x_8855 := Rg.add e_8856 r_7983 (Rg.c (c := Int32.ofInt 1) (k := 1) rfl) (by decide)
      refine lv_iinc (v := x_8855) (lv' := [(2, .int x_8855), (3, .int v_8460), (0, .ref hf), (1, .ref hl0)]) hx hb dX1_smooth_90 hl (k := 1) rfl (e_8856.symm) (by decide) rfl (fun ls hl => ?_)
      refine lv_goto (tgt := 28) hx hb dX1_smooth_93 (by decide) ?_
      exact ih_7980 (x_8855, g_8461) _ _ _ ⟨(Rg.wk (lo2 := 0) (hi2 := 8) r_8857 (by decide)), hP, hD, hS, lv_sub hl [0, 2, 3] rfl⟩ (ms_up e_8856 r_7983 (Rg.c (c := Int32.ofInt 1) (k := 1) rfl) (by decide))
    · have r_8833 : Rg 0 7 v_8460 := Rg.lt_l (nle_lt c_8832) r_8831 r_lh (by decide)
      have r_8834 : Rg 1 8 lh := Rg.lt_r (nle_lt c_8832) r_8831 r_lh (by decide)
      refine lv_aload_n hx hb dX1_smooth_53 rfl (lv_at hl 2 rfl) ?_
      refine va_get (D := D) (ci := 1) (v := .ref fp) (C := "WrongHole$Folds") (T := TX1) (N := 6) hx hb hts (iq_RX1 _) hown hK hP 0 rfl rfl 0 (by decide) (hT _ qq_1_183) (fun _ h9 => h9) rfl dX1_smooth_54 ?_
      refine lv_iload_n hx hb dX1_smooth_57 rfl (lv_at hl 1 rfl) ?_
      refine lv_dup2_11 hx hb dX1_smooth_58 rfl rfl ?_
      have hi_8858 : vp_in v_834 8 := Rg.in r_7983 (by decide)
      refine va_iald hx hb hK hP 1 0 rfl rfl hi_8858 dX1_smooth_59 ?_
      refine lv_topi (fun x_8859 e_8860 => ?_)
      refine lv_aload_n hx hb dX1_smooth_60 rfl (lv_at hl 3 rfl) ?_
      refine va_getN (D := D) (ci := 2) (v := .ref l0) (C := "WrongHole$Lift") (T := TX2) (N := 19) hx hb hts (iq_RX2 _) hown hK hPo 0 rfl rfl 11 (by decide) (NN.f hN nq_2_65) (fun _ h9 => h9) rfl dX1_smooth_61 ?_
      refine lv_iload_n hx hb dX1_smooth_64 rfl (lv_at hl 1 rfl) ?_
      have hi_8861 : vp_in v_834 8 := Rg.in r_7983 (by decide)
      refine va_iald hx hb hK hPo 1 0 rfl rfl hi_8861 dX1_smooth_65 ?_
      refine lv_topi (fun x_8862 e_8863 => ?_)
      refine lv_aload_n hx hb dX1_smooth_66 rfl (lv_at hl 3 rfl) ?_
      refine va_getN (D := D) (ci := 2) (v := .ref l1) (C := "WrongHole$Lift") (T := TX2) (N := 19) hx hb hts (iq_RX2 _) hown hK hPo 0 rfl rfl 12 (by decide) (NN.f hN nq_2_69) (fun _ h9 => h9) rfl dX1_smooth_67 ?_
      refine lv_iload_n hx hb dX1_smooth_70 rfl (lv_at hl 0 rfl) ?_
      have hi_8864 : vp_in v_8460 8 := Rg.in r_8833 (by decide)
      refine va_iald hx hb hK hPo 2 0 rfl rfl hi_8864 dX1_smooth_71 ?_
      refine lv_topi (fun x_8865 e_8866 => ?_)
      refine w_cut (σ := (Int32)) (fun (v_8871 : Int32) H locs ls => Rg 0 128 v_8871 ∧ va_P D vwCl [(hf, .inr (1, [.ref fp, .ref ft, .int lb, .int lh, .int 0, .int 0])), (fp, .inl ((cs 0), 8, .inl g_8461)), (ft, .inl ((cs 0), 81, .inl fta))] H ∧ va_D A [(hf, .inr (1, [.ref fp, .ref ft, .int lb, .int lh, .int 0, .int 0])), (fp, .inl ((cs 0), 8, .inl g_8461)), (ft, .inl ((cs 0), 81, .inl fta))] ∧ va_S A s.heap H locs ∧ lv_has ls 4 [(3, .int v_8460), (2, .int v_834), (0, .ref hf), (1, .ref hl0)]) 82 (fun (v_8871 : Int32) => [.int v_8871, .int x_8859, .int v_834, .ref fp]) ?_ (fun hj_8872 => ?_)
      · rintro v_8871 H locs ls ⟨r_8873, hP, hD, hS, hl⟩
        have hPo := hR.at hS
        refine lv_ior hx hb dX1_smooth_82 ?_
        refine lv_topi (fun x_8874 e_8875 => ?_)
        have hi_8876 : vp_in v_834 8 := Rg.in r_7983 (by decide)
        refine va_iast hx hb hK hP hD hS 1 0 rfl rfl hi_8876 dX1_smooth_83 (fun H locs hP hD hS => ?_)
        obtain ⟨g_8877, hP, hD⟩ : ∃ g_8877 : Nat → Int32, va_P D vwCl [(hf, .inr (1, [.ref fp, .ref ft, .int lb, .int lh, .int 0, .int 0])), (fp, .inl ((cs 0), 8, .inl g_8877)), (ft, .inl ((cs 0), 81, .inl fta))] H ∧ va_D A [(hf, .inr (1, [.ref fp, .ref ft, .int lb, .int lh, .int 0, .int 0])), (fp, .inl ((cs 0), 8, .inl g_8877)), (ft, .inl ((cs 0), 81, .inl fta))] := ⟨_, hP, hD⟩
        have hPo := hR.at hS
        obtain ⟨x_8878, e_8879⟩ : ∃ z : Int32, z = v_8460 + Int32.ofInt 1 := ⟨_, rfl⟩
        have r_8880 : Rg 1 8 x_8878 := Rg.add e_8879 r_8833 (Rg.c (c := Int32.ofInt 1) (k := 1) rfl) (by decide)
        refine lv_iinc (v := x_8878) (lv' := [(3, .int x_8878), (2, .int v_834), (0, .ref hf), (1, .ref hl0)]) hx hb dX1_smooth_84 hl (k := 0) rfl (e_8879.symm) (by decide) rfl (fun ls hl => ?_)
        refine lv_goto (tgt := 45) hx hb dX1_smooth_87 (by decide) ?_
        exact ih_8830 (x_8878, g_8877) _ _ _ ⟨(Rg.wk (lo2 := 0) (hi2 := 8) r_8880 (by decide)), hP, hD, hS, lv_sub hl [0, 1, 2, 3] rfl⟩ (ms_up e_8879 r_8833 (Rg.c (c := Int32.ofInt 1) (k := 1) rfl) (by decide))
      · refine lv_icmp_ne (tgt := 81) hx hb dX1_smooth_72 (by decide) (fun c_8867 => ?_) (fun c_8867 => ?_)
        · refine lv_iconst (v := 0) hx hb dX1_smooth_81 (by decide) ?_
          exact hj_8872 0 _ _ _ ⟨(Rg.wk (lo2 := 0) (hi2 := 128) (Rg.c (c := 0) (k := 0) rfl) (by decide)), hP, hD, hS, lv_sub hl [0, 1, 2, 3] rfl⟩
        · refine lv_iconst (v := 1) hx hb dX1_smooth_75 (by decide) ?_
          refine lv_iload_n hx hb dX1_smooth_76 rfl (lv_at hl 0 rfl) ?_
          refine lv_ishl hx hb dX1_smooth_77 ?_
          refine lv_topi (fun x_8881 e_8882 => ?_)
          have r_8883 : Rg 0 128 x_8881 := Rg.shl (ha := 1) (k := 7) e_8882 (Rg.wk (Rg.c (c := 1) (k := 1) rfl) (by decide)) (Rg.wk r_8833 (by decide)) (by decide) (by decide)
          refine lv_goto (tgt := 82) hx hb dX1_smooth_78 (by decide) ?_
          exact hj_8872 x_8881 _ _ _ ⟨r_8883, hP, hD, hS, lv_sub hl [0, 1, 2, 3] rfl⟩
theorem dX1_fold_0 : decode cX1_fold 0 = .ok (.iconst 1, 1) := by decide +kernel
theorem dX1_fold_1 : decode cX1_fold 1 = .ok (.iload_n 3, 1) := by decide +kernel
theorem dX1_fold_2 : decode cX1_fold 2 = .ok (.ishl, 1) := by decide +kernel
theorem dX1_fold_3 : decode cX1_fold 3 = .ok (.istore 4, 2) := by decide +kernel
theorem dX1_fold_5 : decode cX1_fold 5 = .ok (.iload_n 1, 1) := by decide +kernel
theorem dX1_fold_6 : decode cX1_fold 6 = .ok (.ifCond .eq 8, 3) := by decide +kernel
theorem dX1_fold_26 : decode cX1_fold 26 = .ok (.iload_n 1, 1) := by decide +kernel
theorem dX1_fold_27 : decode cX1_fold 27 = .ok (.iconst 1, 1) := by decide +kernel
theorem dX1_fold_28 : decode cX1_fold 28 = .ok (.if_icmp .ne 10, 3) := by decide +kernel
theorem dX1_fold_38 : decode cX1_fold 38 = .ok (.iload_n 1, 1) := by decide +kernel
theorem dX1_fold_39 : decode cX1_fold 39 = .ok (.iconst 2, 1) := by decide +kernel
theorem dX1_fold_40 : decode cX1_fold 40 = .ok (.if_icmp .ne 14, 3) := by decide +kernel
theorem dX1_fold_54 : decode cX1_fold 54 = .ok (.iload_n 1, 1) := by decide +kernel
theorem dX1_fold_55 : decode cX1_fold 55 = .ok (.iconst 3, 1) := by decide +kernel
theorem dX1_fold_56 : decode cX1_fold 56 = .ok (.if_icmp .ne 35, 3) := by decide +kernel
theorem dX1_fold_91 : decode cX1_fold 91 = .ok (.iload_n 1, 1) := by decide +kernel
theorem dX1_fold_92 : decode cX1_fold 92 = .ok (.iconst 4, 1) := by decide +kernel
theorem dX1_fold_93 : decode cX1_fold 93 = .ok (.if_icmp .ne 14, 3) := by decide +kernel
theorem dX1_fold_107 : decode cX1_fold 107 = .ok (.iload_n 1, 1) := by decide +kernel
theorem dX1_fold_108 : decode cX1_fold 108 = .ok (.iconst 5, 1) := by decide +kernel
theorem dX1_fold_109 : decode cX1_fold 109 = .ok (.if_icmp .ne 16, 3) := by decide +kernel
theorem dX1_fold_125 : decode cX1_fold 125 = .ok (.return_, 1) := by decide +kernel
theorem dX1_fold_112 : decode cX1_fold 112 = .ok (.aload_n 0, 1) := by decide +kernel
theorem dX1_fold_113 : decode cX1_fold 113 = .ok (.getfield 7, 3) := by decide +kernel
theorem dX1_fold_116 : decode cX1_fold 116 = .ok (.iload_n 2, 1) := by decide +kernel
theorem dX1_fold_117 : decode cX1_fold 117 = .ok (.dup2, 1) := by decide +kernel
theorem dX1_fold_118 : decode cX1_fold 118 = .ok (.iaload, 1) := by decide +kernel
theorem dX1_fold_119 : decode cX1_fold 119 = .ok (.iload 4, 2) := by decide +kernel
theorem dX1_fold_121 : decode cX1_fold 121 = .ok (.iconst (-1), 1) := by decide +kernel
theorem dX1_fold_122 : decode cX1_fold 122 = .ok (.ixor, 1) := by decide +kernel
theorem dX1_fold_123 : decode cX1_fold 123 = .ok (.iand, 1) := by decide +kernel
theorem dX1_fold_124 : decode cX1_fold 124 = .ok (.iastore, 1) := by decide +kernel
theorem dX1_fold_96 : decode cX1_fold 96 = .ok (.aload_n 0, 1) := by decide +kernel
theorem dX1_fold_97 : decode cX1_fold 97 = .ok (.getfield 7, 3) := by decide +kernel
theorem dX1_fold_100 : decode cX1_fold 100 = .ok (.iload_n 2, 1) := by decide +kernel
theorem dX1_fold_101 : decode cX1_fold 101 = .ok (.dup2, 1) := by decide +kernel
theorem dX1_fold_102 : decode cX1_fold 102 = .ok (.iaload, 1) := by decide +kernel
theorem dX1_fold_103 : decode cX1_fold 103 = .ok (.iload 4, 2) := by decide +kernel
theorem dX1_fold_105 : decode cX1_fold 105 = .ok (.iand, 1) := by decide +kernel
theorem dX1_fold_106 : decode cX1_fold 106 = .ok (.iastore, 1) := by decide +kernel
theorem dX1_fold_59 : decode cX1_fold 59 = .ok (.iconst 0, 1) := by decide +kernel
theorem dX1_fold_60 : decode cX1_fold 60 = .ok (.istore 5, 2) := by decide +kernel
theorem dX1_fold_62 : decode cX1_fold 62 = .ok (.iload 5, 2) := by decide +kernel
theorem dX1_fold_64 : decode cX1_fold 64 = .ok (.aload_n 0, 1) := by decide +kernel
theorem dX1_fold_65 : decode cX1_fold 65 = .ok (.getfield 29, 3) := by decide +kernel
theorem dX1_fold_68 : decode cX1_fold 68 = .ok (.if_icmp .ge 23, 3) := by decide +kernel
theorem dX1_fold_71 : decode cX1_fold 71 = .ok (.aload_n 0, 1) := by decide +kernel
theorem dX1_fold_72 : decode cX1_fold 72 = .ok (.getfield 7, 3) := by decide +kernel
theorem dX1_fold_75 : decode cX1_fold 75 = .ok (.iload 5, 2) := by decide +kernel
theorem dX1_fold_77 : decode cX1_fold 77 = .ok (.dup2, 1) := by decide +kernel
theorem dX1_fold_78 : decode cX1_fold 78 = .ok (.iaload, 1) := by decide +kernel
theorem dX1_fold_79 : decode cX1_fold 79 = .ok (.iload 4, 2) := by decide +kernel
theorem dX1_fold_81 : decode cX1_fold 81 = .ok (.iconst (-1), 1) := by decide +kernel
theorem dX1_fold_82 : decode cX1_fold 82 = .ok (.ixor, 1) := by decide +kernel
theorem dX1_fold_83 : decode cX1_fold 83 = .ok (.iand, 1) := by decide +kernel
theorem dX1_fold_84 : decode cX1_fold 84 = .ok (.iastore, 1) := by decide +kernel
theorem dX1_fold_85 : decode cX1_fold 85 = .ok (.iinc 5 1, 3) := by decide +kernel
theorem dX1_fold_88 : decode cX1_fold 88 = .ok (.goto (-26), 3) := by decide +kernel
theorem dX1_fold_43 : decode cX1_fold 43 = .ok (.aload_n 0, 1) := by decide +kernel
theorem dX1_fold_44 : decode cX1_fold 44 = .ok (.dup, 1) := by decide +kernel
theorem dX1_fold_45 : decode cX1_fold 45 = .ok (.getfield 37, 3) := by decide +kernel
theorem dX1_fold_48 : decode cX1_fold 48 = .ok (.iload 4, 2) := by decide +kernel
theorem dX1_fold_50 : decode cX1_fold 50 = .ok (.ior, 1) := by decide +kernel
theorem dX1_fold_51 : decode cX1_fold 51 = .ok (.putfield 37, 3) := by decide +kernel
theorem dX1_fold_31 : decode cX1_fold 31 = .ok (.aload_n 0, 1) := by decide +kernel
theorem dX1_fold_32 : decode cX1_fold 32 = .ok (.getfield 7, 3) := by decide +kernel
theorem dX1_fold_35 : decode cX1_fold 35 = .ok (.iload_n 2, 1) := by decide +kernel
theorem dX1_fold_36 : decode cX1_fold 36 = .ok (.iconst 0, 1) := by decide +kernel
theorem dX1_fold_37 : decode cX1_fold 37 = .ok (.iastore, 1) := by decide +kernel
theorem dX1_fold_14 : decode cX1_fold 14 = .ok (.aload_n 0, 1) := by decide +kernel
theorem dX1_fold_15 : decode cX1_fold 15 = .ok (.dup, 1) := by decide +kernel
theorem dX1_fold_16 : decode cX1_fold 16 = .ok (.getfield 34, 3) := by decide +kernel
theorem dX1_fold_19 : decode cX1_fold 19 = .ok (.iconst 1, 1) := by decide +kernel
theorem dX1_fold_20 : decode cX1_fold 20 = .ok (.iload_n 2, 1) := by decide +kernel
theorem dX1_fold_21 : decode cX1_fold 21 = .ok (.ishl, 1) := by decide +kernel
theorem dX1_fold_22 : decode cX1_fold 22 = .ok (.ior, 1) := by decide +kernel
theorem dX1_fold_23 : decode cX1_fold 23 = .ok (.putfield 34, 3) := by decide +kernel
theorem dX1_fold_9 : decode cX1_fold 9 = .ok (.iload_n 1, 1) := by decide +kernel
theorem dX1_fold_10 : decode cX1_fold 10 = .ok (.iconst 4, 1) := by decide +kernel
theorem dX1_fold_11 : decode cX1_fold 11 = .ok (.if_icmp .ne 15, 3) := by decide +kernel
set_option maxHeartbeats 4000000 in
set_option maxRecDepth 100000 in
theorem c_Folds_fold (l : Launch) (D : va_G) (cs : Nat → ClassId) (X : XX) (sz : Nat) (hf : Nat) (fp : Nat) (ft : Nat) (fb : Int32) (fh : Int32) (fm : Int32) (fd : Int32) (fpo : Nat → Int32) (fta : Nat → Int32) (x : Int32) (b : Int32) (h : Int32) (r_fb : Rg 0 8 fb) (r_fh : Rg 0 8 fh) (r_b : Rg 0 7 b) : Met l yX1_fold (Cond.code yX1_fold cX1_fold 6 none :: TB) (RM 0 0 0) (va_Pc [.ref hf, .int x, .int b, .int h] (PRE D cs X [(hf, .inr (1, [.ref fp, .ref ft, .int fb, .int fh, .int fm, .int fd])), (fp, .inl ((cs 0), 8, .inl fpo)), (ft, .inl ((cs 0), 81, .inl fta))] [] sz)) (va_Qv (S := Unit) (fun _ => True) (fun _ t => ∃ (fb2 : Int32), ∃ (fh2 : Int32), ∃ (fm2 : Int32), ∃ (fd2 : Int32), ∃ (fpo2 : Nat → Int32), ∃ (fta2 : Nat → Int32), Rg 0 8 fb2 ∧ Rg 0 8 fh2 ∧ va_P D vwCl [(hf, .inr (1, [.ref fp, .ref ft, .int fb2, .int fh2, .int fm2, .int fd2])), (fp, .inl ((cs 0), 8, .inl fpo2)), (ft, .inl ((cs 0), 81, .inl fta2))] t.heap ∧ va_D (va_A [(hf, .inr (1, [.ref fp, .ref ft, .int fb, .int fh, .int fm, .int fd])), (fp, .inl ((cs 0), 8, .inl fpo)), (ft, .inl ((cs 0), 81, .inl fta))] sz) [(hf, .inr (1, [.ref fp, .ref ft, .int fb2, .int fh2, .int fm2, .int fd2])), (fp, .inl ((cs 0), 8, .inl fpo2)), (ft, .inl ((cs 0), 81, .inl fta2))]) (va_A [(hf, .inr (1, [.ref fp, .ref ft, .int fb, .int fh, .int fm, .int fd])), (fp, .inl ((cs 0), 8, .inl fpo)), (ft, .inl ((cs 0), 81, .inl fta))] sz)) 0 0 (va_A [(hf, .inr (1, [.ref fp, .ref ft, .int fb, .int fh, .int fm, .int fd])), (fp, .inl ((cs 0), 8, .inl fpo)), (ft, .inl ((cs 0), 81, .inl fta))] sz) := by
  refine MET (y := yX1_fold) (cc := cX1_fold) (maxL := 6) (ret := none) (d := 0) (mc := 0) (ms := 0) (D := D) (cs := cs) (X := X) (ws := [(hf, .inr (1, [.ref fp, .ref ft, .int fb, .int fh, .int fm, .int fd])), (fp, .inl ((cs 0), 8, .inl fpo)), (ft, .inl ((cs 0), 81, .inl fta))]) (wo := []) (sz := sz) (av := [.ref hf, .int x, .int b, .int h]) (Qc := fun A => va_Qv (S := Unit) (fun _ => True) (fun _ t => ∃ (fb2 : Int32), ∃ (fh2 : Int32), ∃ (fm2 : Int32), ∃ (fd2 : Int32), ∃ (fpo2 : Nat → Int32), ∃ (fta2 : Nat → Int32), Rg 0 8 fb2 ∧ Rg 0 8 fh2 ∧ va_P D vwCl [(hf, .inr (1, [.ref fp, .ref ft, .int fb2, .int fh2, .int fm2, .int fd2])), (fp, .inl ((cs 0), 8, .inl fpo2)), (ft, .inl ((cs 0), 81, .inl fta2))] t.heap ∧ va_D A [(hf, .inr (1, [.ref fp, .ref ft, .int fb2, .int fh2, .int fm2, .int fd2])), (fp, .inl ((cs 0), 8, .inl fpo2)), (ft, .inl ((cs 0), 81, .inl fta2))]) A) (by decide) (Nat.le_of_ble_eq_true rfl) ?_
  intro p e s m below meth c ls A H hHe hx hb hr hml hown hts hlocks hnm hP hK hD hA hS hN hR hX hXs hl
  have hD : va_D A [(hf, .inr (1, [.ref fp, .ref ft, .int fb, .int fh, .int fm, .int fd])), (fp, .inl ((cs 0), 8, .inl fpo)), (ft, .inl ((cs 0), 81, .inl fta))] := hD
  obtain ⟨locs, hlc⟩ : ∃ z : List Loc, z = [] := ⟨_, rfl⟩
  rw [← hlc] at hS ⊢
  have hown : s.vm.findClass "WrongHole$Folds" = some m.cls := hown
  have hT : ∀ w ∈ TB, w.before ([.ref hf, .int x, .int b, .int h] : List Value).toArray s = true := fun w h => hts w (List.mem_cons_of_mem _ h)
  have hl : lv_has ls 6 [(0, .ref hf), (1, .int x), (2, .int b), (3, .int h)] := hl
  have hP : va_P D vwCl [(hf, .inr (1, [.ref fp, .ref ft, .int fb, .int fh, .int fm, .int fd])), (fp, .inl ((cs 0), 8, .inl fpo)), (ft, .inl ((cs 0), 81, .inl fta))] H := hP
  refine lv_iconst (v := 1) hx hb dX1_fold_0 (by decide) ?_
  refine lv_iload_n hx hb dX1_fold_1 rfl (lv_at hl 3 rfl) ?_
  refine lv_ishl hx hb dX1_fold_2 ?_
  refine lv_topi (fun x_1 e_2 => ?_)
  refine lv_istore (lv' := [(4, .int x_1), (0, .ref hf), (1, .int x), (2, .int b), (3, .int h)]) hx hb dX1_fold_3 hl (by decide) rfl (fun ls hl => ?_)
  refine lv_iload_n hx hb dX1_fold_5 rfl (lv_at hl 2 rfl) ?_
  refine w_cut (σ := (Int32)) (fun (v_17 : Int32) H locs ls => va_P D vwCl [(hf, .inr (1, [.ref fp, .ref ft, .int fb, .int fh, .int v_17, .int fd])), (fp, .inl ((cs 0), 8, .inl fpo)), (ft, .inl ((cs 0), 81, .inl fta))] H ∧ va_D A [(hf, .inr (1, [.ref fp, .ref ft, .int fb, .int fh, .int v_17, .int fd])), (fp, .inl ((cs 0), 8, .inl fpo)), (ft, .inl ((cs 0), 81, .inl fta))] ∧ va_S A s.heap H locs ∧ lv_has ls 6 [(4, .int x_1), (0, .ref hf), (1, .int x), (2, .int b), (3, .int h)]) 26 (fun (v_17 : Int32) => []) ?_ (fun hj_18 => ?_)
  · rintro v_17 H locs ls ⟨hP, hD, hS, hl⟩
    refine lv_iload_n hx hb dX1_fold_26 rfl (lv_at hl 2 rfl) ?_
    refine lv_iconst (v := 1) hx hb dX1_fold_27 (by decide) ?_
    refine w_cut (σ := (Nat → Int32)) (fun (g_22 : Nat → Int32) H locs ls => va_P D vwCl [(hf, .inr (1, [.ref fp, .ref ft, .int fb, .int fh, .int v_17, .int fd])), (fp, .inl ((cs 0), 8, .inl g_22)), (ft, .inl ((cs 0), 81, .inl fta))] H ∧ va_D A [(hf, .inr (1, [.ref fp, .ref ft, .int fb, .int fh, .int v_17, .int fd])), (fp, .inl ((cs 0), 8, .inl g_22)), (ft, .inl ((cs 0), 81, .inl fta))] ∧ va_S A s.heap H locs ∧ lv_has ls 6 [(4, .int x_1), (0, .ref hf), (1, .int x), (2, .int b), (3, .int h)]) 38 (fun (g_22 : Nat → Int32) => []) ?_ (fun hj_23 => ?_)
    · rintro g_22 H locs ls ⟨hP, hD, hS, hl⟩
      refine lv_iload_n hx hb dX1_fold_38 rfl (lv_at hl 2 rfl) ?_
      refine lv_iconst (v := 2) hx hb dX1_fold_39 (by decide) ?_
      refine w_cut (σ := (Int32)) (fun (v_28 : Int32) H locs ls => va_P D vwCl [(hf, .inr (1, [.ref fp, .ref ft, .int fb, .int fh, .int v_17, .int v_28])), (fp, .inl ((cs 0), 8, .inl g_22)), (ft, .inl ((cs 0), 81, .inl fta))] H ∧ va_D A [(hf, .inr (1, [.ref fp, .ref ft, .int fb, .int fh, .int v_17, .int v_28])), (fp, .inl ((cs 0), 8, .inl g_22)), (ft, .inl ((cs 0), 81, .inl fta))] ∧ va_S A s.heap H locs ∧ lv_has ls 6 [(4, .int x_1), (0, .ref hf), (1, .int x), (2, .int b), (3, .int h)]) 54 (fun (v_28 : Int32) => []) ?_ (fun hj_29 => ?_)
      · rintro v_28 H locs ls ⟨hP, hD, hS, hl⟩
        refine lv_iload_n hx hb dX1_fold_54 rfl (lv_at hl 2 rfl) ?_
        refine lv_iconst (v := 3) hx hb dX1_fold_55 (by decide) ?_
        refine w_cut (σ := (Nat → Int32)) (fun (g_213 : Nat → Int32) H locs ls => va_P D vwCl [(hf, .inr (1, [.ref fp, .ref ft, .int fb, .int fh, .int v_17, .int v_28])), (fp, .inl ((cs 0), 8, .inl g_213)), (ft, .inl ((cs 0), 81, .inl fta))] H ∧ va_D A [(hf, .inr (1, [.ref fp, .ref ft, .int fb, .int fh, .int v_17, .int v_28])), (fp, .inl ((cs 0), 8, .inl g_213)), (ft, .inl ((cs 0), 81, .inl fta))] ∧ va_S A s.heap H locs ∧ lv_has ls 6 [(4, .int x_1), (0, .ref hf), (1, .int x), (2, .int b), (3, .int h)]) 91 (fun (g_213 : Nat → Int32) => []) ?_ (fun hj_214 => ?_)
        · rintro g_213 H locs ls ⟨hP, hD, hS, hl⟩
          refine lv_iload_n hx hb dX1_fold_91 rfl (lv_at hl 2 rfl) ?_
          refine lv_iconst (v := 4) hx hb dX1_fold_92 (by decide) ?_
          refine w_cut (σ := (Nat → Int32)) (fun (g_222 : Nat → Int32) H locs ls => va_P D vwCl [(hf, .inr (1, [.ref fp, .ref ft, .int fb, .int fh, .int v_17, .int v_28])), (fp, .inl ((cs 0), 8, .inl g_222)), (ft, .inl ((cs 0), 81, .inl fta))] H ∧ va_D A [(hf, .inr (1, [.ref fp, .ref ft, .int fb, .int fh, .int v_17, .int v_28])), (fp, .inl ((cs 0), 8, .inl g_222)), (ft, .inl ((cs 0), 81, .inl fta))] ∧ va_S A s.heap H locs ∧ lv_has ls 6 [(4, .int x_1), (0, .ref hf), (1, .int x), (2, .int b), (3, .int h)]) 107 (fun (g_222 : Nat → Int32) => []) ?_ (fun hj_223 => ?_)
          · rintro g_222 H locs ls ⟨hP, hD, hS, hl⟩
            refine lv_iload_n hx hb dX1_fold_107 rfl (lv_at hl 2 rfl) ?_
            refine lv_iconst (v := 5) hx hb dX1_fold_108 (by decide) ?_
            refine lv_icmp_ne (tgt := 125) hx hb dX1_fold_109 (by decide) (fun c_224 => ?_) (fun c_224 => ?_)
            · refine W.widen (k := 0) (n := 0) (Nat.le_of_ble_eq_true rfl) (Nat.le_of_ble_eq_true rfl) ?_
              have hP9 := hP.sub (ws' := [(hf, .inr (1, [.ref fp, .ref ft, .int fb, .int fh, .int v_17, .int v_28])), (fp, .inl ((cs 0), 8, .inl g_222)), (ft, .inl ((cs 0), 81, .inl fta))]) [0, 1, 2] rfl
              have hD9 := hD.sub (ws' := [(hf, .inr (1, [.ref fp, .ref ft, .int fb, .int fh, .int v_17, .int v_28])), (fp, .inl ((cs 0), 8, .inl g_222)), (ft, .inl ((cs 0), 81, .inl fta))]) [0, 1, 2] (by decide) rfl
              exact W.vret hx hb hr (fun t9 ht9 hW9 => ⟨⟨(), rfl, trivial, ⟨fb, fh, v_17, v_28, g_222, fta, r_fb, r_fh, by rw [ht9]; exact hP9, hD9⟩⟩, hS.F ht9⟩) hS.2.2 dX1_fold_125
            · have r_225 : Rg 5 5 x := Rg.eq_l c_224 (Rg.top x) (Rg.c (c := 5) (k := 5) rfl) (by decide)
              refine lv_aload_n hx hb dX1_fold_112 rfl (lv_at hl 1 rfl) ?_
              refine va_get (D := D) (ci := 1) (v := .ref fp) (C := "WrongHole$Folds") (T := TX1) (N := 6) hx hb hts (iq_RX1 _) hown hK hP 0 rfl rfl 0 (by decide) (hT _ qq_1_183) (fun _ h9 => h9) rfl dX1_fold_113 ?_
              refine lv_iload_n hx hb dX1_fold_116 rfl (lv_at hl 3 rfl) ?_
              refine lv_dup2_11 hx hb dX1_fold_117 rfl rfl ?_
              have hi_233 : vp_in b 8 := Rg.in r_b (by decide)
              refine va_iald hx hb hK hP 1 0 rfl rfl hi_233 dX1_fold_118 ?_
              refine lv_topi (fun x_234 e_235 => ?_)
              refine lv_iload hx hb dX1_fold_119 (lv_at hl 0 rfl) ?_
              refine lv_iconst (v := (-1)) hx hb dX1_fold_121 (by decide) ?_
              refine lv_ixor hx hb dX1_fold_122 ?_
              refine lv_topi (fun x_236 e_237 => ?_)
              refine lv_iand hx hb dX1_fold_123 ?_
              refine lv_topi (fun x_238 e_239 => ?_)
              have hi_240 : vp_in b 8 := Rg.in r_b (by decide)
              refine va_iast hx hb hK hP hD hS 1 0 rfl rfl hi_240 dX1_fold_124 (fun H locs hP hD hS => ?_)
              obtain ⟨g_241, hP, hD⟩ : ∃ g_241 : Nat → Int32, va_P D vwCl [(hf, .inr (1, [.ref fp, .ref ft, .int fb, .int fh, .int v_17, .int v_28])), (fp, .inl ((cs 0), 8, .inl g_241)), (ft, .inl ((cs 0), 81, .inl fta))] H ∧ va_D A [(hf, .inr (1, [.ref fp, .ref ft, .int fb, .int fh, .int v_17, .int v_28])), (fp, .inl ((cs 0), 8, .inl g_241)), (ft, .inl ((cs 0), 81, .inl fta))] := ⟨_, hP, hD⟩
              refine W.widen (k := 0) (n := 0) (Nat.le_of_ble_eq_true rfl) (Nat.le_of_ble_eq_true rfl) ?_
              have hP9 := hP.sub (ws' := [(hf, .inr (1, [.ref fp, .ref ft, .int fb, .int fh, .int v_17, .int v_28])), (fp, .inl ((cs 0), 8, .inl g_241)), (ft, .inl ((cs 0), 81, .inl fta))]) [0, 1, 2] rfl
              have hD9 := hD.sub (ws' := [(hf, .inr (1, [.ref fp, .ref ft, .int fb, .int fh, .int v_17, .int v_28])), (fp, .inl ((cs 0), 8, .inl g_241)), (ft, .inl ((cs 0), 81, .inl fta))]) [0, 1, 2] (by decide) rfl
              exact W.vret hx hb hr (fun t9 ht9 hW9 => ⟨⟨(), rfl, trivial, ⟨fb, fh, v_17, v_28, g_241, fta, r_fb, r_fh, by rw [ht9]; exact hP9, hD9⟩⟩, hS.F ht9⟩) hS.2.2 dX1_fold_125
          · refine lv_icmp_ne (tgt := 107) hx hb dX1_fold_93 (by decide) (fun c_215 => ?_) (fun c_215 => ?_)
            · exact hj_223 g_213 _ _ _ ⟨hP, hD, hS, lv_sub hl [0, 1, 2, 3, 4] rfl⟩
            · have r_216 : Rg 4 4 x := Rg.eq_l c_215 (Rg.top x) (Rg.c (c := 4) (k := 4) rfl) (by decide)
              refine lv_aload_n hx hb dX1_fold_96 rfl (lv_at hl 1 rfl) ?_
              refine va_get (D := D) (ci := 1) (v := .ref fp) (C := "WrongHole$Folds") (T := TX1) (N := 6) hx hb hts (iq_RX1 _) hown hK hP 0 rfl rfl 0 (by decide) (hT _ qq_1_183) (fun _ h9 => h9) rfl dX1_fold_97 ?_
              refine lv_iload_n hx hb dX1_fold_100 rfl (lv_at hl 3 rfl) ?_
              refine lv_dup2_11 hx hb dX1_fold_101 rfl rfl ?_
              have hi_242 : vp_in b 8 := Rg.in r_b (by decide)
              refine va_iald hx hb hK hP 1 0 rfl rfl hi_242 dX1_fold_102 ?_
              refine lv_topi (fun x_243 e_244 => ?_)
              refine lv_iload hx hb dX1_fold_103 (lv_at hl 0 rfl) ?_
              refine lv_iand hx hb dX1_fold_105 ?_
              refine lv_topi (fun x_245 e_246 => ?_)
              have hi_247 : vp_in b 8 := Rg.in r_b (by decide)
              refine va_iast hx hb hK hP hD hS 1 0 rfl rfl hi_247 dX1_fold_106 (fun H locs hP hD hS => ?_)
              obtain ⟨g_248, hP, hD⟩ : ∃ g_248 : Nat → Int32, va_P D vwCl [(hf, .inr (1, [.ref fp, .ref ft, .int fb, .int fh, .int v_17, .int v_28])), (fp, .inl ((cs 0), 8, .inl g_248)), (ft, .inl ((cs 0), 81, .inl fta))] H ∧ va_D A [(hf, .inr (1, [.ref fp, .ref ft, .int fb, .int fh, .int v_17, .int v_28])), (fp, .inl ((cs 0), 8, .inl g_248)), (ft, .inl ((cs 0), 81, .inl fta))] := ⟨_, hP, hD⟩
              exact hj_223 g_248 _ _ _ ⟨hP, hD, hS, lv_sub hl [0, 1, 2, 3, 4] rfl⟩
        · refine lv_icmp_ne (tgt := 91) hx hb dX1_fold_56 (by decide) (fun c_30 => ?_) (fun c_30 => ?_)
          · exact hj_214 g_22 _ _ _ ⟨hP, hD, hS, lv_sub hl [0, 1, 2, 3, 4] rfl⟩
          · have r_31 : Rg 3 3 x := Rg.eq_l c_30 (Rg.top x) (Rg.c (c := 3) (k := 3) rfl) (by decide)
            refine lv_iconst (v := 0) hx hb dX1_fold_59 (by decide) ?_
            refine lv_istore (lv' := [(5, .int 0), (4, .int x_1), (0, .ref hf), (1, .int x), (2, .int b), (3, .int h)]) hx hb dX1_fold_60 hl (by decide) rfl (fun ls hl => ?_)
            refine w_wh (σ := (Int32) × (Nat → Int32)) (fun x9 H locs ls => match x9 with | (v_259, g_260) => Rg 0 8 v_259 ∧ va_P D vwCl [(hf, .inr (1, [.ref fp, .ref ft, .int fb, .int fh, .int v_17, .int v_28])), (fp, .inl ((cs 0), 8, .inl g_260)), (ft, .inl ((cs 0), 81, .inl fta))] H ∧ va_D A [(hf, .inr (1, [.ref fp, .ref ft, .int fb, .int fh, .int v_17, .int v_28])), (fp, .inl ((cs 0), 8, .inl g_260)), (ft, .inl ((cs 0), 81, .inl fta))] ∧ va_S A s.heap H locs ∧ lv_has ls 6 [(5, .int v_259), (4, .int x_1), (0, .ref hf), (1, .int x), (2, .int b), (3, .int h)]) (fun x9 => match x9 with | (v_259, g_260) => (8 - Int32.toInt v_259).toNat) 62 ?_ (0, g_22) H locs ls ⟨(Rg.wk (lo2 := 0) (hi2 := 8) (Rg.c (c := 0) (k := 0) rfl) (by decide)), hP, hD, hS, lv_sub hl [0, 1, 2, 3, 4, 5] rfl⟩
            rintro ⟨v_259, g_260⟩ H locs ls ⟨r_418, hP, hD, hS, hl⟩ ih_417
            refine lv_iload hx hb dX1_fold_62 (lv_at hl 0 rfl) ?_
            refine lv_aload_n hx hb dX1_fold_64 rfl (lv_at hl 2 rfl) ?_
            refine va_get (D := D) (ci := 1) (v := .int fb) (C := "WrongHole$Folds") (T := TX1) (N := 6) hx hb hts (iq_RX1 _) hown hK hP 0 rfl rfl 2 (by decide) (hT _ qq_1_185) (fun _ h9 => h9) rfl dX1_fold_65 ?_
            refine lv_icmp_ge (tgt := 91) hx hb dX1_fold_68 (by decide) (fun c_419 => ?_) (fun c_419 => ?_)
            · exact hj_214 g_260 _ _ _ ⟨hP, hD, hS, lv_sub hl [1, 2, 3, 4, 5] rfl⟩
            · have r_420 : Rg 0 7 v_259 := Rg.lt_l (nle_lt c_419) r_418 r_fb (by decide)
              have r_421 : Rg 1 8 fb := Rg.lt_r (nle_lt c_419) r_418 r_fb (by decide)
              refine lv_aload_n hx hb dX1_fold_71 rfl (lv_at hl 2 rfl) ?_
              refine va_get (D := D) (ci := 1) (v := .ref fp) (C := "WrongHole$Folds") (T := TX1) (N := 6) hx hb hts (iq_RX1 _) hown hK hP 0 rfl rfl 0 (by decide) (hT _ qq_1_183) (fun _ h9 => h9) rfl dX1_fold_72 ?_
              refine lv_iload hx hb dX1_fold_75 (lv_at hl 0 rfl) ?_
              refine lv_dup2_11 hx hb dX1_fold_77 rfl rfl ?_
              have hi_422 : vp_in v_259 8 := Rg.in r_420 (by decide)
              refine va_iald hx hb hK hP 1 0 rfl rfl hi_422 dX1_fold_78 ?_
              refine lv_topi (fun x_423 e_424 => ?_)
              refine lv_iload hx hb dX1_fold_79 (lv_at hl 1 rfl) ?_
              refine lv_iconst (v := (-1)) hx hb dX1_fold_81 (by decide) ?_
              refine lv_ixor hx hb dX1_fold_82 ?_
              refine lv_topi (fun x_425 e_426 => ?_)
              refine lv_iand hx hb dX1_fold_83 ?_
              refine lv_topi (fun x_427 e_428 => ?_)
              have hi_429 : vp_in v_259 8 := Rg.in r_420 (by decide)
              refine va_iast hx hb hK hP hD hS 1 0 rfl rfl hi_429 dX1_fold_84 (fun H locs hP hD hS => ?_)
              obtain ⟨g_430, hP, hD⟩ : ∃ g_430 : Nat → Int32, va_P D vwCl [(hf, .inr (1, [.ref fp, .ref ft, .int fb, .int fh, .int v_17, .int v_28])), (fp, .inl ((cs 0), 8, .inl g_430)), (ft, .inl ((cs 0), 81, .inl fta))] H ∧ va_D A [(hf, .inr (1, [.ref fp, .ref ft, .int fb, .int fh, .int v_17, .int v_28])), (fp, .inl ((cs 0), 8, .inl g_430)), (ft, .inl ((cs 0), 81, .inl fta))] := ⟨_, hP, hD⟩
              obtain ⟨x_431, e_432⟩ : ∃ z : Int32, z = v_259 + Int32.ofInt 1 := ⟨_, rfl⟩
              have r_433 : Rg 1 8 x_431 := Rg.add e_432 r_420 (Rg.c (c := Int32.ofInt 1) (k := 1) rfl) (by decide)
              refine lv_iinc (v := x_431) (lv' := [(5, .int x_431), (4, .int x_1), (0, .ref hf), (1, .int x), (2, .int b), (3, .int h)]) hx hb dX1_fold_85 hl (k := 0) rfl (e_432.symm) (by decide) rfl (fun ls hl => ?_)
              refine lv_goto (tgt := 62) hx hb dX1_fold_88 (by decide) ?_
              exact ih_417 (x_431, g_430) _ _ _ ⟨(Rg.wk (lo2 := 0) (hi2 := 8) r_433 (by decide)), hP, hD, hS, lv_sub hl [0, 1, 2, 3, 4, 5] rfl⟩ (ms_up e_432 r_420 (Rg.c (c := Int32.ofInt 1) (k := 1) rfl) (by decide))
      · refine lv_icmp_ne (tgt := 54) hx hb dX1_fold_40 (by decide) (fun c_24 => ?_) (fun c_24 => ?_)
        · exact hj_29 fd _ _ _ ⟨hP, hD, hS, lv_sub hl [0, 1, 2, 3, 4] rfl⟩
        · have r_25 : Rg 2 2 x := Rg.eq_l c_24 (Rg.top x) (Rg.c (c := 2) (k := 2) rfl) (by decide)
          refine lv_aload_n hx hb dX1_fold_43 rfl (lv_at hl 1 rfl) ?_
          refine lv_dup hx hb dX1_fold_44 rfl ?_
          refine va_get (D := D) (ci := 1) (v := .int fd) (C := "WrongHole$Folds") (T := TX1) (N := 6) hx hb hts (iq_RX1 _) hown hK hP 0 rfl rfl 5 (by decide) (hT _ qq_1_188) (fun _ h9 => h9) rfl dX1_fold_45 ?_
          refine lv_iload hx hb dX1_fold_48 (lv_at hl 0 rfl) ?_
          refine lv_ior hx hb dX1_fold_50 ?_
          refine lv_topi (fun x_434 e_435 => ?_)
          refine va_put (D := D) (ci := 1) (v := .int x_434) (ty := .int) (C := "WrongHole$Folds") (T := TX1) (N := 6) hx hb hts (iq_RX1 _) tyX1 tyX1_ok nmX1 hown hK hP hD hS 0 rfl rfl 5 (by decide) (hT _ qq_1_188) (fun _ h9 => h9) rfl (by decide +kernel) rfl rfl (Nat.le_of_ble_eq_true rfl) dX1_fold_51 (fun H locs hP hD hS => ?_)
          have hP : va_P D vwCl [(hf, .inr (1, [.ref fp, .ref ft, .int fb, .int fh, .int v_17, .int x_434])), (fp, .inl ((cs 0), 8, .inl g_22)), (ft, .inl ((cs 0), 81, .inl fta))] H := hP
          have hD : va_D A [(hf, .inr (1, [.ref fp, .ref ft, .int fb, .int fh, .int v_17, .int x_434])), (fp, .inl ((cs 0), 8, .inl g_22)), (ft, .inl ((cs 0), 81, .inl fta))] := hD
          exact hj_29 x_434 _ _ _ ⟨hP, hD, hS, lv_sub hl [0, 1, 2, 3, 4] rfl⟩
    · refine lv_icmp_ne (tgt := 38) hx hb dX1_fold_28 (by decide) (fun c_19 => ?_) (fun c_19 => ?_)
      · exact hj_23 fpo _ _ _ ⟨hP, hD, hS, lv_sub hl [0, 1, 2, 3, 4] rfl⟩
      · have r_20 : Rg 1 1 x := Rg.eq_l c_19 (Rg.top x) (Rg.c (c := 1) (k := 1) rfl) (by decide)
        refine lv_aload_n hx hb dX1_fold_31 rfl (lv_at hl 1 rfl) ?_
        refine va_get (D := D) (ci := 1) (v := .ref fp) (C := "WrongHole$Folds") (T := TX1) (N := 6) hx hb hts (iq_RX1 _) hown hK hP 0 rfl rfl 0 (by decide) (hT _ qq_1_183) (fun _ h9 => h9) rfl dX1_fold_32 ?_
        refine lv_iload_n hx hb dX1_fold_35 rfl (lv_at hl 3 rfl) ?_
        refine lv_iconst (v := 0) hx hb dX1_fold_36 (by decide) ?_
        have hi_436 : vp_in b 8 := Rg.in r_b (by decide)
        refine va_iast hx hb hK hP hD hS 1 0 rfl rfl hi_436 dX1_fold_37 (fun H locs hP hD hS => ?_)
        obtain ⟨g_437, hP, hD⟩ : ∃ g_437 : Nat → Int32, va_P D vwCl [(hf, .inr (1, [.ref fp, .ref ft, .int fb, .int fh, .int v_17, .int fd])), (fp, .inl ((cs 0), 8, .inl g_437)), (ft, .inl ((cs 0), 81, .inl fta))] H ∧ va_D A [(hf, .inr (1, [.ref fp, .ref ft, .int fb, .int fh, .int v_17, .int fd])), (fp, .inl ((cs 0), 8, .inl g_437)), (ft, .inl ((cs 0), 81, .inl fta))] := ⟨_, hP, hD⟩
        exact hj_23 g_437 _ _ _ ⟨hP, hD, hS, lv_sub hl [0, 1, 2, 3, 4] rfl⟩
  · refine lv_if_eq (tgt := 14) hx hb dX1_fold_6 (by decide) (fun c_3 => ?_) (fun c_3 => ?_)
    · have r_4 : Rg 0 0 x := Rg.eq_l c_3 (Rg.top x) (Rg.c (c := 0) (k := 0) rfl) (by decide)
      refine lv_aload_n hx hb dX1_fold_14 rfl (lv_at hl 1 rfl) ?_
      refine lv_dup hx hb dX1_fold_15 rfl ?_
      refine va_get (D := D) (ci := 1) (v := .int fm) (C := "WrongHole$Folds") (T := TX1) (N := 6) hx hb hts (iq_RX1 _) hown hK hP 0 rfl rfl 4 (by decide) (hT _ qq_1_187) (fun _ h9 => h9) rfl dX1_fold_16 ?_
      refine lv_iconst (v := 1) hx hb dX1_fold_19 (by decide) ?_
      refine lv_iload_n hx hb dX1_fold_20 rfl (lv_at hl 3 rfl) ?_
      refine lv_ishl hx hb dX1_fold_21 ?_
      refine lv_topi (fun x_438 e_439 => ?_)
      have r_440 : Rg 0 128 x_438 := Rg.shl (ha := 1) (k := 7) e_439 (Rg.wk (Rg.c (c := 1) (k := 1) rfl) (by decide)) (Rg.wk r_b (by decide)) (by decide) (by decide)
      refine lv_ior hx hb dX1_fold_22 ?_
      refine lv_topi (fun x_441 e_442 => ?_)
      refine va_put (D := D) (ci := 1) (v := .int x_441) (ty := .int) (C := "WrongHole$Folds") (T := TX1) (N := 6) hx hb hts (iq_RX1 _) tyX1 tyX1_ok nmX1 hown hK hP hD hS 0 rfl rfl 4 (by decide) (hT _ qq_1_187) (fun _ h9 => h9) rfl (by decide +kernel) rfl rfl (Nat.le_of_ble_eq_true rfl) dX1_fold_23 (fun H locs hP hD hS => ?_)
      have hP : va_P D vwCl [(hf, .inr (1, [.ref fp, .ref ft, .int fb, .int fh, .int x_441, .int fd])), (fp, .inl ((cs 0), 8, .inl fpo)), (ft, .inl ((cs 0), 81, .inl fta))] H := hP
      have hD : va_D A [(hf, .inr (1, [.ref fp, .ref ft, .int fb, .int fh, .int x_441, .int fd])), (fp, .inl ((cs 0), 8, .inl fpo)), (ft, .inl ((cs 0), 81, .inl fta))] := hD
      exact hj_18 x_441 _ _ _ ⟨hP, hD, hS, lv_sub hl [0, 1, 2, 3, 4] rfl⟩
    · refine lv_iload_n hx hb dX1_fold_9 rfl (lv_at hl 2 rfl) ?_
      refine lv_iconst (v := 4) hx hb dX1_fold_10 (by decide) ?_
      refine lv_icmp_ne (tgt := 26) hx hb dX1_fold_11 (by decide) (fun c_443 => ?_) (fun c_443 => ?_)
      · exact hj_18 fm _ _ _ ⟨hP, hD, hS, lv_sub hl [0, 1, 2, 3, 4] rfl⟩
      · have r_444 : Rg 4 4 x := Rg.eq_l c_443 (Rg.top x) (Rg.c (c := 4) (k := 4) rfl) (by decide)
        refine lv_aload_n hx hb dX1_fold_14 rfl (lv_at hl 1 rfl) ?_
        refine lv_dup hx hb dX1_fold_15 rfl ?_
        refine va_get (D := D) (ci := 1) (v := .int fm) (C := "WrongHole$Folds") (T := TX1) (N := 6) hx hb hts (iq_RX1 _) hown hK hP 0 rfl rfl 4 (by decide) (hT _ qq_1_187) (fun _ h9 => h9) rfl dX1_fold_16 ?_
        refine lv_iconst (v := 1) hx hb dX1_fold_19 (by decide) ?_
        refine lv_iload_n hx hb dX1_fold_20 rfl (lv_at hl 3 rfl) ?_
        refine lv_ishl hx hb dX1_fold_21 ?_
        refine lv_topi (fun x_445 e_446 => ?_)
        have r_447 : Rg 0 128 x_445 := Rg.shl (ha := 1) (k := 7) e_446 (Rg.wk (Rg.c (c := 1) (k := 1) rfl) (by decide)) (Rg.wk r_b (by decide)) (by decide) (by decide)
        refine lv_ior hx hb dX1_fold_22 ?_
        refine lv_topi (fun x_448 e_449 => ?_)
        refine va_put (D := D) (ci := 1) (v := .int x_448) (ty := .int) (C := "WrongHole$Folds") (T := TX1) (N := 6) hx hb hts (iq_RX1 _) tyX1 tyX1_ok nmX1 hown hK hP hD hS 0 rfl rfl 4 (by decide) (hT _ qq_1_187) (fun _ h9 => h9) rfl (by decide +kernel) rfl rfl (Nat.le_of_ble_eq_true rfl) dX1_fold_23 (fun H locs hP hD hS => ?_)
        have hP : va_P D vwCl [(hf, .inr (1, [.ref fp, .ref ft, .int fb, .int fh, .int x_448, .int fd])), (fp, .inl ((cs 0), 8, .inl fpo)), (ft, .inl ((cs 0), 81, .inl fta))] H := hP
        have hD : va_D A [(hf, .inr (1, [.ref fp, .ref ft, .int fb, .int fh, .int x_448, .int fd])), (fp, .inl ((cs 0), 8, .inl fpo)), (ft, .inl ((cs 0), 81, .inl fta))] := hD
        exact hj_18 x_448 _ _ _ ⟨hP, hD, hS, lv_sub hl [0, 1, 2, 3, 4] rfl⟩
theorem dX1_tallyAt_0 : decode cX1_tallyAt 0 = .ok (.iload_n 1, 1) := by decide +kernel
theorem dX1_tallyAt_1 : decode cX1_tallyAt 1 = .ok (.iconst 1, 1) := by decide +kernel
theorem dX1_tallyAt_2 : decode cX1_tallyAt 2 = .ok (.iadd, 1) := by decide +kernel
theorem dX1_tallyAt_3 : decode cX1_tallyAt 3 = .ok (.bipush 9, 2) := by decide +kernel
theorem dX1_tallyAt_5 : decode cX1_tallyAt 5 = .ok (.imul, 1) := by decide +kernel
theorem dX1_tallyAt_6 : decode cX1_tallyAt 6 = .ok (.istore 4, 2) := by decide +kernel
theorem dX1_tallyAt_8 : decode cX1_tallyAt 8 = .ok (.iload_n 3, 1) := by decide +kernel
theorem dX1_tallyAt_9 : decode cX1_tallyAt 9 = .ok (.iload_n 1, 1) := by decide +kernel
theorem dX1_tallyAt_10 : decode cX1_tallyAt 10 = .ok (.ishr, 1) := by decide +kernel
theorem dX1_tallyAt_11 : decode cX1_tallyAt 11 = .ok (.iconst 1, 1) := by decide +kernel
theorem dX1_tallyAt_12 : decode cX1_tallyAt 12 = .ok (.iand, 1) := by decide +kernel
theorem dX1_tallyAt_13 : decode cX1_tallyAt 13 = .ok (.ifCond .eq 7, 3) := by decide +kernel
theorem dX1_tallyAt_29 : decode cX1_tallyAt 29 = .ok (.istore 5, 2) := by decide +kernel
theorem dX1_tallyAt_31 : decode cX1_tallyAt 31 = .ok (.iload_n 2, 1) := by decide +kernel
theorem dX1_tallyAt_32 : decode cX1_tallyAt 32 = .ok (.istore 6, 2) := by decide +kernel
theorem dX1_tallyAt_34 : decode cX1_tallyAt 34 = .ok (.iload 6, 2) := by decide +kernel
theorem dX1_tallyAt_36 : decode cX1_tallyAt 36 = .ok (.aload_n 0, 1) := by decide +kernel
theorem dX1_tallyAt_37 : decode cX1_tallyAt 37 = .ok (.getfield 33, 3) := by decide +kernel
theorem dX1_tallyAt_40 : decode cX1_tallyAt 40 = .ok (.if_icmp .ge 55, 3) := by decide +kernel
theorem dX1_tallyAt_95 : decode cX1_tallyAt 95 = .ok (.iload 5, 2) := by decide +kernel
theorem dX1_tallyAt_97 : decode cX1_tallyAt 97 = .ok (.ireturn, 1) := by decide +kernel
theorem dX1_tallyAt_43 : decode cX1_tallyAt 43 = .ok (.aload_n 0, 1) := by decide +kernel
theorem dX1_tallyAt_44 : decode cX1_tallyAt 44 = .ok (.getfield 7, 3) := by decide +kernel
theorem dX1_tallyAt_47 : decode cX1_tallyAt 47 = .ok (.iload_n 1, 1) := by decide +kernel
theorem dX1_tallyAt_48 : decode cX1_tallyAt 48 = .ok (.iaload, 1) := by decide +kernel
theorem dX1_tallyAt_49 : decode cX1_tallyAt 49 = .ok (.iload 6, 2) := by decide +kernel
theorem dX1_tallyAt_51 : decode cX1_tallyAt 51 = .ok (.ishr, 1) := by decide +kernel
theorem dX1_tallyAt_52 : decode cX1_tallyAt 52 = .ok (.iconst 1, 1) := by decide +kernel
theorem dX1_tallyAt_53 : decode cX1_tallyAt 53 = .ok (.iand, 1) := by decide +kernel
theorem dX1_tallyAt_54 : decode cX1_tallyAt 54 = .ok (.ifCond .eq 20, 3) := by decide +kernel
theorem dX1_tallyAt_74 : decode cX1_tallyAt 74 = .ok (.aload_n 0, 1) := by decide +kernel
theorem dX1_tallyAt_75 : decode cX1_tallyAt 75 = .ok (.getfield 37, 3) := by decide +kernel
theorem dX1_tallyAt_78 : decode cX1_tallyAt 78 = .ok (.iload 6, 2) := by decide +kernel
theorem dX1_tallyAt_80 : decode cX1_tallyAt 80 = .ok (.ishr, 1) := by decide +kernel
theorem dX1_tallyAt_81 : decode cX1_tallyAt 81 = .ok (.iconst 1, 1) := by decide +kernel
theorem dX1_tallyAt_82 : decode cX1_tallyAt 82 = .ok (.iand, 1) := by decide +kernel
theorem dX1_tallyAt_83 : decode cX1_tallyAt 83 = .ok (.ifCond .eq 6, 3) := by decide +kernel
theorem dX1_tallyAt_89 : decode cX1_tallyAt 89 = .ok (.iinc 6 1, 3) := by decide +kernel
theorem dX1_tallyAt_92 : decode cX1_tallyAt 92 = .ok (.goto (-58), 3) := by decide +kernel
theorem dX1_tallyAt_86 : decode cX1_tallyAt 86 = .ok (.goto 9, 3) := by decide +kernel
theorem dX1_tallyAt_57 : decode cX1_tallyAt 57 = .ok (.iload 5, 2) := by decide +kernel
theorem dX1_tallyAt_59 : decode cX1_tallyAt 59 = .ok (.aload_n 0, 1) := by decide +kernel
theorem dX1_tallyAt_60 : decode cX1_tallyAt 60 = .ok (.getfield 13, 3) := by decide +kernel
theorem qq_1_184 : Cond.fieldLink "WrongHole$Folds" 13 "WrongHole$Folds" "tallies" "[I" ∈ TB := mk_tb (ti_1 (List.mem_of_getElem? (i := 184) rfl)) rfl
theorem dX1_tallyAt_63 : decode cX1_tallyAt 63 = .ok (.iload 4, 2) := by decide +kernel
theorem dX1_tallyAt_65 : decode cX1_tallyAt 65 = .ok (.iload 6, 2) := by decide +kernel
theorem dX1_tallyAt_67 : decode cX1_tallyAt 67 = .ok (.iadd, 1) := by decide +kernel
theorem dX1_tallyAt_68 : decode cX1_tallyAt 68 = .ok (.iconst 1, 1) := by decide +kernel
theorem dX1_tallyAt_69 : decode cX1_tallyAt 69 = .ok (.iadd, 1) := by decide +kernel
theorem dX1_tallyAt_70 : decode cX1_tallyAt 70 = .ok (.iaload, 1) := by decide +kernel
theorem dX1_tallyAt_71 : decode cX1_tallyAt 71 = .ok (.iadd, 1) := by decide +kernel
theorem dX1_tallyAt_72 : decode cX1_tallyAt 72 = .ok (.istore 5, 2) := by decide +kernel
theorem dX1_tallyAt_20 : decode cX1_tallyAt 20 = .ok (.aload_n 0, 1) := by decide +kernel
theorem dX1_tallyAt_21 : decode cX1_tallyAt 21 = .ok (.getfield 13, 3) := by decide +kernel
theorem dX1_tallyAt_24 : decode cX1_tallyAt 24 = .ok (.iload 4, 2) := by decide +kernel
theorem dX1_tallyAt_26 : decode cX1_tallyAt 26 = .ok (.iload_n 2, 1) := by decide +kernel
theorem dX1_tallyAt_27 : decode cX1_tallyAt 27 = .ok (.iadd, 1) := by decide +kernel
theorem dX1_tallyAt_28 : decode cX1_tallyAt 28 = .ok (.iaload, 1) := by decide +kernel
theorem dX1_tallyAt_16 : decode cX1_tallyAt 16 = .ok (.iconst 0, 1) := by decide +kernel
theorem dX1_tallyAt_17 : decode cX1_tallyAt 17 = .ok (.goto 12, 3) := by decide +kernel
set_option maxHeartbeats 4000000 in
set_option maxRecDepth 100000 in
theorem c_Folds_tallyAt (l : Launch) (D : va_G) (cs : Nat → ClassId) (hf : Nat) (fp : Nat) (ft : Nat) (fb : Int32) (fh : Int32) (fm : Int32) (fd : Int32) (fpo : Nat → Int32) (fta : Nat → Int32) (b : Int32) (h : Int32) (x : Int32) (r_fb : Rg 0 8 fb) (r_fh : Rg 0 8 fh) (r_b : Rg 0 7 b) (r_h : Rg 0 8 h) : Met l yX1_tallyAt (Cond.code yX1_tallyAt cX1_tallyAt 7 (some .int) :: TB) (RM 0 0 0) (va_Pc [.ref hf, .int b, .int h, .int x] (PRR D cs [(hf, .inr (1, [.ref fp, .ref ft, .int fb, .int fh, .int fm, .int fd])), (fp, .inl ((cs 0), 8, .inl fpo)), (ft, .inl ((cs 0), 81, .inl fta))])) (QP (fun v => ∃ x : Int32, v = .int x)) 0 0 (fun _ => False) := by
  refine MER (y := yX1_tallyAt) (cc := cX1_tallyAt) (maxL := 7) (ret := (some .int)) (d := 0) (D := D) (cs := cs) (ws := [(hf, .inr (1, [.ref fp, .ref ft, .int fb, .int fh, .int fm, .int fd])), (fp, .inl ((cs 0), 8, .inl fpo)), (ft, .inl ((cs 0), 81, .inl fta))]) (av := [.ref hf, .int b, .int h, .int x]) (Qc := QP (fun v => ∃ x : Int32, v = .int x)) (by decide) (Nat.le_of_ble_eq_true rfl) ?_
  intro p e s m below meth c ls H hHe hx hb hr hml hown hts hlocks hP hK hN hl
  obtain ⟨locs, hlc⟩ : ∃ z : List Loc, z = [] := ⟨_, rfl⟩
  rw [← hlc]
  have hown : s.vm.findClass "WrongHole$Folds" = some m.cls := hown
  have hT : ∀ w ∈ TB, w.before ([.ref hf, .int b, .int h, .int x] : List Value).toArray s = true := fun w h => hts w (List.mem_cons_of_mem _ h)
  have hl : lv_has ls 7 [(0, .ref hf), (1, .int b), (2, .int h), (3, .int x)] := hl
  have hP : va_P D vwCl [(hf, .inr (1, [.ref fp, .ref ft, .int fb, .int fh, .int fm, .int fd])), (fp, .inl ((cs 0), 8, .inl fpo)), (ft, .inl ((cs 0), 81, .inl fta))] H := hP
  refine lv_iload_n hx hb dX1_tallyAt_0 rfl (lv_at hl 1 rfl) ?_
  refine lv_iconst (v := 1) hx hb dX1_tallyAt_1 (by decide) ?_
  refine lv_iadd hx hb dX1_tallyAt_2 ?_
  refine lv_topi (fun x_1 e_2 => ?_)
  have r_3 : Rg 1 8 x_1 := Rg.add e_2 r_b (Rg.c (c := 1) (k := 1) rfl) (by decide)
  refine lv_bipush (v := 9) hx hb dX1_tallyAt_3 (by decide) ?_
  refine lv_imul hx hb dX1_tallyAt_5 ?_
  refine lv_topi (fun x_4 e_5 => ?_)
  have r_6 : Rg 0 72 x_4 := Rg.mul (ha := 8) (hb := 9) e_5 (Rg.wk (lo2 := 0) (hi2 := 8) r_3 (by decide)) (Rg.wk (lo2 := 0) (hi2 := 9) (Rg.c (c := 9) (k := 9) rfl) (by decide)) (by decide)
  refine lv_istore (lv' := [(4, .int x_4), (0, .ref hf), (1, .int b), (2, .int h), (3, .int x)]) hx hb dX1_tallyAt_6 hl (by decide) rfl (fun ls hl => ?_)
  refine lv_iload_n hx hb dX1_tallyAt_8 rfl (lv_at hl 4 rfl) ?_
  refine lv_iload_n hx hb dX1_tallyAt_9 rfl (lv_at hl 2 rfl) ?_
  refine lv_ishr hx hb dX1_tallyAt_10 ?_
  refine lv_topi (fun x_7 e_8 => ?_)
  refine lv_iconst (v := 1) hx hb dX1_tallyAt_11 (by decide) ?_
  refine lv_iand hx hb dX1_tallyAt_12 ?_
  refine lv_topi (fun x_9 e_10 => ?_)
  have r_11 : Rg 0 1 x_9 := Rg.and e_10 (Rg.c (c := 1) (k := 1) rfl) (by decide)
  refine w_cut (σ := (Int32)) (fun (v_20 : Int32) H locs ls => H = s.heap ∧ locs = [] ∧ va_P D vwCl [(hf, .inr (1, [.ref fp, .ref ft, .int fb, .int fh, .int fm, .int fd])), (fp, .inl ((cs 0), 8, .inl fpo)), (ft, .inl ((cs 0), 81, .inl fta))] H ∧ lv_has ls 7 [(4, .int x_4), (0, .ref hf), (1, .int b), (2, .int h), (3, .int x)]) 29 (fun (v_20 : Int32) => [.int v_20]) ?_ (fun hj_21 => ?_)
  · rintro v_20 H locs ls ⟨hHe, hlc, hP, hl⟩
    refine lv_istore (lv' := [(5, .int v_20), (4, .int x_4), (0, .ref hf), (1, .int b), (2, .int h), (3, .int x)]) hx hb dX1_tallyAt_29 hl (by decide) rfl (fun ls hl => ?_)
    refine lv_iload_n hx hb dX1_tallyAt_31 rfl (lv_at hl 4 rfl) ?_
    refine lv_istore (lv' := [(6, .int h), (5, .int v_20), (4, .int x_4), (0, .ref hf), (1, .int b), (2, .int h), (3, .int x)]) hx hb dX1_tallyAt_32 hl (by decide) rfl (fun ls hl => ?_)
    refine w_wh (σ := (Int32) × (Int32)) (fun x9 H locs ls => match x9 with | (v_112, v_113) => Rg 0 8 v_112 ∧ H = s.heap ∧ locs = [] ∧ va_P D vwCl [(hf, .inr (1, [.ref fp, .ref ft, .int fb, .int fh, .int fm, .int fd])), (fp, .inl ((cs 0), 8, .inl fpo)), (ft, .inl ((cs 0), 81, .inl fta))] H ∧ lv_has ls 7 [(6, .int v_112), (5, .int v_113), (4, .int x_4), (0, .ref hf), (1, .int b), (2, .int h), (3, .int x)]) (fun x9 => match x9 with | (v_112, v_113) => (8 - Int32.toInt v_112).toNat) 34 ?_ (h, v_20) H locs ls ⟨r_h, hHe, hlc, hP, lv_sub hl [0, 1, 2, 3, 4, 5, 6] rfl⟩
    rintro ⟨v_112, v_113⟩ H locs ls ⟨r_475, hHe, hlc, hP, hl⟩ ih_474
    refine lv_iload hx hb dX1_tallyAt_34 (lv_at hl 0 rfl) ?_
    refine lv_aload_n hx hb dX1_tallyAt_36 rfl (lv_at hl 3 rfl) ?_
    refine va_get (D := D) (ci := 1) (v := .int fh) (C := "WrongHole$Folds") (T := TX1) (N := 6) hx hb hts (iq_RX1 _) hown hK hP 0 rfl rfl 3 (by decide) (hT _ qq_1_186) (fun _ h9 => h9) rfl dX1_tallyAt_37 ?_
    refine lv_icmp_ge (tgt := 95) hx hb dX1_tallyAt_40 (by decide) (fun c_476 => ?_) (fun c_476 => ?_)
    · refine lv_iload hx hb dX1_tallyAt_95 (lv_at hl 1 rfl) ?_
      exact W.iret (v := v_113) hx hb hr (fun t9 ht9 hW9 => ⟨⟨_, rfl, _, rfl⟩, ht9.trans hHe⟩) (fun _ h9 => by rw [hlc] at h9; exact absurd h9 List.not_mem_nil) dX1_tallyAt_97
    · have r_477 : Rg 0 7 v_112 := Rg.lt_l (nle_lt c_476) r_475 r_fh (by decide)
      have r_478 : Rg 1 8 fh := Rg.lt_r (nle_lt c_476) r_475 r_fh (by decide)
      refine lv_aload_n hx hb dX1_tallyAt_43 rfl (lv_at hl 3 rfl) ?_
      refine va_get (D := D) (ci := 1) (v := .ref fp) (C := "WrongHole$Folds") (T := TX1) (N := 6) hx hb hts (iq_RX1 _) hown hK hP 0 rfl rfl 0 (by decide) (hT _ qq_1_183) (fun _ h9 => h9) rfl dX1_tallyAt_44 ?_
      refine lv_iload_n hx hb dX1_tallyAt_47 rfl (lv_at hl 4 rfl) ?_
      have hi_521 : vp_in b 8 := Rg.in r_b (by decide)
      refine va_iald hx hb hK hP 1 0 rfl rfl hi_521 dX1_tallyAt_48 ?_
      refine lv_topi (fun x_522 e_523 => ?_)
      refine lv_iload hx hb dX1_tallyAt_49 (lv_at hl 0 rfl) ?_
      refine lv_ishr hx hb dX1_tallyAt_51 ?_
      refine lv_topi (fun x_524 e_525 => ?_)
      refine lv_iconst (v := 1) hx hb dX1_tallyAt_52 (by decide) ?_
      refine lv_iand hx hb dX1_tallyAt_53 ?_
      refine lv_topi (fun x_526 e_527 => ?_)
      have r_528 : Rg 0 1 x_526 := Rg.and e_527 (Rg.c (c := 1) (k := 1) rfl) (by decide)
      refine w_cut (σ := (Int32)) (fun (v_542 : Int32) H locs ls => H = s.heap ∧ locs = [] ∧ va_P D vwCl [(hf, .inr (1, [.ref fp, .ref ft, .int fb, .int fh, .int fm, .int fd])), (fp, .inl ((cs 0), 8, .inl fpo)), (ft, .inl ((cs 0), 81, .inl fta))] H ∧ lv_has ls 7 [(6, .int v_112), (5, .int v_542), (4, .int x_4), (0, .ref hf), (1, .int b), (2, .int h), (3, .int x)]) 74 (fun (v_542 : Int32) => []) ?_ (fun hj_543 => ?_)
      · rintro v_542 H locs ls ⟨hHe, hlc, hP, hl⟩
        refine lv_aload_n hx hb dX1_tallyAt_74 rfl (lv_at hl 3 rfl) ?_
        refine va_get (D := D) (ci := 1) (v := .int fd) (C := "WrongHole$Folds") (T := TX1) (N := 6) hx hb hts (iq_RX1 _) hown hK hP 0 rfl rfl 5 (by decide) (hT _ qq_1_188) (fun _ h9 => h9) rfl dX1_tallyAt_75 ?_
        refine lv_iload hx hb dX1_tallyAt_78 (lv_at hl 0 rfl) ?_
        refine lv_ishr hx hb dX1_tallyAt_80 ?_
        refine lv_topi (fun x_544 e_545 => ?_)
        refine lv_iconst (v := 1) hx hb dX1_tallyAt_81 (by decide) ?_
        refine lv_iand hx hb dX1_tallyAt_82 ?_
        refine lv_topi (fun x_546 e_547 => ?_)
        have r_548 : Rg 0 1 x_546 := Rg.and e_547 (Rg.c (c := 1) (k := 1) rfl) (by decide)
        refine lv_if_eq (tgt := 89) hx hb dX1_tallyAt_83 (by decide) (fun c_549 => ?_) (fun c_549 => ?_)
        · have r_550 : Rg 0 0 x_546 := Rg.eq_l c_549 r_548 (Rg.c (c := 0) (k := 0) rfl) (by decide)
          obtain ⟨x_555, e_556⟩ : ∃ z : Int32, z = v_112 + Int32.ofInt 1 := ⟨_, rfl⟩
          have r_557 : Rg 1 8 x_555 := Rg.add e_556 r_477 (Rg.c (c := Int32.ofInt 1) (k := 1) rfl) (by decide)
          refine lv_iinc (v := x_555) (lv' := [(6, .int x_555), (5, .int v_542), (4, .int x_4), (0, .ref hf), (1, .int b), (2, .int h), (3, .int x)]) hx hb dX1_tallyAt_89 hl (k := 0) rfl (e_556.symm) (by decide) rfl (fun ls hl => ?_)
          refine lv_goto (tgt := 34) hx hb dX1_tallyAt_92 (by decide) ?_
          exact ih_474 (x_555, v_542) _ _ _ ⟨(Rg.wk (lo2 := 0) (hi2 := 8) r_557 (by decide)), hHe, hlc, hP, lv_sub hl [0, 1, 2, 3, 4, 5, 6] rfl⟩ (ms_up e_556 r_477 (Rg.c (c := Int32.ofInt 1) (k := 1) rfl) (by decide))
        · have r_551 : Rg 1 1 x_546 := Rg.ne c_549 r_548 (Rg.c (c := 0) (k := 0) rfl) (by decide)
          refine lv_goto (tgt := 95) hx hb dX1_tallyAt_86 (by decide) ?_
          refine lv_iload hx hb dX1_tallyAt_95 (lv_at hl 1 rfl) ?_
          exact W.iret (v := v_542) hx hb hr (fun t9 ht9 hW9 => ⟨⟨_, rfl, _, rfl⟩, ht9.trans hHe⟩) (fun _ h9 => by rw [hlc] at h9; exact absurd h9 List.not_mem_nil) dX1_tallyAt_97
      · refine lv_if_eq (tgt := 74) hx hb dX1_tallyAt_54 (by decide) (fun c_529 => ?_) (fun c_529 => ?_)
        · have r_530 : Rg 0 0 x_526 := Rg.eq_l c_529 r_528 (Rg.c (c := 0) (k := 0) rfl) (by decide)
          exact hj_543 v_113 _ _ _ ⟨hHe, hlc, hP, lv_sub hl [0, 1, 2, 3, 4, 5, 6] rfl⟩
        · have r_531 : Rg 1 1 x_526 := Rg.ne c_529 r_528 (Rg.c (c := 0) (k := 0) rfl) (by decide)
          refine lv_iload hx hb dX1_tallyAt_57 (lv_at hl 1 rfl) ?_
          refine lv_aload_n hx hb dX1_tallyAt_59 rfl (lv_at hl 3 rfl) ?_
          refine va_get (D := D) (ci := 1) (v := .ref ft) (C := "WrongHole$Folds") (T := TX1) (N := 6) hx hb hts (iq_RX1 _) hown hK hP 0 rfl rfl 1 (by decide) (hT _ qq_1_184) (fun _ h9 => h9) rfl dX1_tallyAt_60 ?_
          refine lv_iload hx hb dX1_tallyAt_63 (lv_at hl 2 rfl) ?_
          refine lv_iload hx hb dX1_tallyAt_65 (lv_at hl 0 rfl) ?_
          refine lv_iadd hx hb dX1_tallyAt_67 ?_
          refine lv_topi (fun x_558 e_559 => ?_)
          have r_560 : Rg 0 79 x_558 := Rg.add e_559 r_6 r_477 (by decide)
          refine lv_iconst (v := 1) hx hb dX1_tallyAt_68 (by decide) ?_
          refine lv_iadd hx hb dX1_tallyAt_69 ?_
          refine lv_topi (fun x_561 e_562 => ?_)
          have r_563 : Rg 1 80 x_561 := Rg.add e_562 r_560 (Rg.c (c := 1) (k := 1) rfl) (by decide)
          have hi_564 : vp_in x_561 81 := Rg.in r_563 (by decide)
          refine va_iald hx hb hK hP 2 0 rfl rfl hi_564 dX1_tallyAt_70 ?_
          refine lv_topi (fun x_565 e_566 => ?_)
          refine lv_iadd hx hb dX1_tallyAt_71 ?_
          refine lv_topi (fun x_567 e_568 => ?_)
          refine lv_istore (lv' := [(5, .int x_567), (6, .int v_112), (4, .int x_4), (0, .ref hf), (1, .int b), (2, .int h), (3, .int x)]) hx hb dX1_tallyAt_72 hl (by decide) rfl (fun ls hl => ?_)
          exact hj_543 x_567 _ _ _ ⟨hHe, hlc, hP, lv_sub hl [1, 0, 2, 3, 4, 5, 6] rfl⟩
  · refine lv_if_eq (tgt := 20) hx hb dX1_tallyAt_13 (by decide) (fun c_12 => ?_) (fun c_12 => ?_)
    · have r_13 : Rg 0 0 x_9 := Rg.eq_l c_12 r_11 (Rg.c (c := 0) (k := 0) rfl) (by decide)
      refine lv_aload_n hx hb dX1_tallyAt_20 rfl (lv_at hl 1 rfl) ?_
      refine va_get (D := D) (ci := 1) (v := .ref ft) (C := "WrongHole$Folds") (T := TX1) (N := 6) hx hb hts (iq_RX1 _) hown hK hP 0 rfl rfl 1 (by decide) (hT _ qq_1_184) (fun _ h9 => h9) rfl dX1_tallyAt_21 ?_
      refine lv_iload hx hb dX1_tallyAt_24 (lv_at hl 0 rfl) ?_
      refine lv_iload_n hx hb dX1_tallyAt_26 rfl (lv_at hl 3 rfl) ?_
      refine lv_iadd hx hb dX1_tallyAt_27 ?_
      refine lv_topi (fun x_569 e_570 => ?_)
      have r_571 : Rg 0 80 x_569 := Rg.add e_570 r_6 r_h (by decide)
      have hi_572 : vp_in x_569 81 := Rg.in r_571 (by decide)
      refine va_iald hx hb hK hP 2 0 rfl rfl hi_572 dX1_tallyAt_28 ?_
      refine lv_topi (fun x_573 e_574 => ?_)
      exact hj_21 x_573 _ _ _ ⟨hHe, hlc, hP, lv_sub hl [0, 1, 2, 3, 4] rfl⟩
    · have r_14 : Rg 1 1 x_9 := Rg.ne c_12 r_11 (Rg.c (c := 0) (k := 0) rfl) (by decide)
      refine lv_iconst (v := 0) hx hb dX1_tallyAt_16 (by decide) ?_
      refine lv_goto (tgt := 29) hx hb dX1_tallyAt_17 (by decide) ?_
      exact hj_21 0 _ _ _ ⟨hHe, hlc, hP, lv_sub hl [0, 1, 2, 3, 4] rfl⟩
theorem dX1_tally_0 : decode cX1_tally 0 = .ok (.iconst 0, 1) := by decide +kernel
theorem dX1_tally_1 : decode cX1_tally 1 = .ok (.istore_n 2, 1) := by decide +kernel
theorem dX1_tally_2 : decode cX1_tally 2 = .ok (.iload_n 2, 1) := by decide +kernel
theorem dX1_tally_3 : decode cX1_tally 3 = .ok (.aload_n 0, 1) := by decide +kernel
theorem dX1_tally_4 : decode cX1_tally 4 = .ok (.getfield 33, 3) := by decide +kernel
theorem dX1_tally_7 : decode cX1_tally 7 = .ok (.if_icmp .gt 37, 3) := by decide +kernel
theorem dX1_tally_44 : decode cX1_tally 44 = .ok (.aload_n 0, 1) := by decide +kernel
theorem dX1_tally_45 : decode cX1_tally 45 = .ok (.getfield 29, 3) := by decide +kernel
theorem dX1_tally_48 : decode cX1_tally 48 = .ok (.iconst 1, 1) := by decide +kernel
theorem dX1_tally_49 : decode cX1_tally 49 = .ok (.isub, 1) := by decide +kernel
theorem dX1_tally_50 : decode cX1_tally 50 = .ok (.istore_n 2, 1) := by decide +kernel
theorem dX1_tally_51 : decode cX1_tally 51 = .ok (.iload_n 2, 1) := by decide +kernel
theorem dX1_tally_52 : decode cX1_tally 52 = .ok (.ifCond .lt 42, 3) := by decide +kernel
theorem dX1_tally_94 : decode cX1_tally 94 = .ok (.aload_n 0, 1) := by decide +kernel
theorem dX1_tally_95 : decode cX1_tally 95 = .ok (.getfield 13, 3) := by decide +kernel
theorem dX1_tally_98 : decode cX1_tally 98 = .ok (.iconst 0, 1) := by decide +kernel
theorem dX1_tally_99 : decode cX1_tally 99 = .ok (.iaload, 1) := by decide +kernel
theorem dX1_tally_100 : decode cX1_tally 100 = .ok (.ireturn, 1) := by decide +kernel
theorem dX1_tally_55 : decode cX1_tally 55 = .ok (.aload_n 0, 1) := by decide +kernel
theorem dX1_tally_56 : decode cX1_tally 56 = .ok (.getfield 33, 3) := by decide +kernel
theorem dX1_tally_59 : decode cX1_tally 59 = .ok (.istore_n 3, 1) := by decide +kernel
theorem dX1_tally_60 : decode cX1_tally 60 = .ok (.iload_n 3, 1) := by decide +kernel
theorem dX1_tally_61 : decode cX1_tally 61 = .ok (.ifCond .lt 27, 3) := by decide +kernel
theorem dX1_tally_88 : decode cX1_tally 88 = .ok (.iinc 2 (-1), 3) := by decide +kernel
theorem dX1_tally_91 : decode cX1_tally 91 = .ok (.goto (-40), 3) := by decide +kernel
theorem dX1_tally_64 : decode cX1_tally 64 = .ok (.aload_n 0, 1) := by decide +kernel
theorem dX1_tally_65 : decode cX1_tally 65 = .ok (.getfield 13, 3) := by decide +kernel
theorem dX1_tally_68 : decode cX1_tally 68 = .ok (.iload_n 2, 1) := by decide +kernel
theorem dX1_tally_69 : decode cX1_tally 69 = .ok (.bipush 9, 2) := by decide +kernel
theorem dX1_tally_71 : decode cX1_tally 71 = .ok (.imul, 1) := by decide +kernel
theorem dX1_tally_72 : decode cX1_tally 72 = .ok (.iload_n 3, 1) := by decide +kernel
theorem dX1_tally_73 : decode cX1_tally 73 = .ok (.iadd, 1) := by decide +kernel
theorem dX1_tally_74 : decode cX1_tally 74 = .ok (.aload_n 0, 1) := by decide +kernel
theorem dX1_tally_75 : decode cX1_tally 75 = .ok (.iload_n 2, 1) := by decide +kernel
theorem dX1_tally_76 : decode cX1_tally 76 = .ok (.iload_n 3, 1) := by decide +kernel
theorem dX1_tally_77 : decode cX1_tally 77 = .ok (.iload_n 1, 1) := by decide +kernel
theorem dX1_tally_78 : decode cX1_tally 78 = .ok (.invokevirtual 54, 3) := by decide +kernel
theorem qq_5_89 : Cond.code yX1_tallyAt cX1_tallyAt 7 (some .int) ∈ TB := mk_tb (ti_5 (List.mem_of_getElem? (i := 89) rfl)) rfl
theorem qq_1_8 : Cond.initialized "WrongHole$Folds" ∈ TB := mk_tb (ti_1 (List.mem_of_getElem? (i := 8) rfl)) rfl
theorem qq_5_86 : Cond.methodLink "WrongHole$Folds" 54 yX1_tallyAt ∈ TB := mk_tb (ti_5 (List.mem_of_getElem? (i := 86) rfl)) rfl
theorem qq_5_88 : Cond.instanceMethod yX1_tallyAt ∈ TB := mk_tb (ti_5 (List.mem_of_getElem? (i := 88) rfl)) rfl
theorem qs_1_12 : Cond.selects "WrongHole$Folds" yX1_tallyAt yX1_tallyAt ∈ TB := mk_tb (ti_s (q := (yX1_tallyAt, 6)) (List.mem_append_right _ (List.mem_append_left _ (List.mem_of_getElem? (i := 12) rfl)))) rfl
theorem dX1_tally_81 : decode cX1_tally 81 = .ok (.iastore, 1) := by decide +kernel
theorem dX1_tally_82 : decode cX1_tally 82 = .ok (.iinc 3 (-1), 3) := by decide +kernel
theorem dX1_tally_85 : decode cX1_tally 85 = .ok (.goto (-25), 3) := by decide +kernel
theorem dX1_tally_10 : decode cX1_tally 10 = .ok (.aload_n 0, 1) := by decide +kernel
theorem dX1_tally_11 : decode cX1_tally 11 = .ok (.getfield 13, 3) := by decide +kernel
theorem dX1_tally_14 : decode cX1_tally 14 = .ok (.aload_n 0, 1) := by decide +kernel
theorem dX1_tally_15 : decode cX1_tally 15 = .ok (.getfield 29, 3) := by decide +kernel
theorem dX1_tally_18 : decode cX1_tally 18 = .ok (.bipush 9, 2) := by decide +kernel
theorem dX1_tally_20 : decode cX1_tally 20 = .ok (.imul, 1) := by decide +kernel
theorem dX1_tally_21 : decode cX1_tally 21 = .ok (.iload_n 2, 1) := by decide +kernel
theorem dX1_tally_22 : decode cX1_tally 22 = .ok (.iadd, 1) := by decide +kernel
theorem dX1_tally_23 : decode cX1_tally 23 = .ok (.aload_n 0, 1) := by decide +kernel
theorem dX1_tally_24 : decode cX1_tally 24 = .ok (.getfield 37, 3) := by decide +kernel
theorem dX1_tally_27 : decode cX1_tally 27 = .ok (.iload_n 2, 1) := by decide +kernel
theorem dX1_tally_28 : decode cX1_tally 28 = .ok (.ishr, 1) := by decide +kernel
theorem dX1_tally_29 : decode cX1_tally 29 = .ok (.ifCond .ne 7, 3) := by decide +kernel
theorem dX1_tally_37 : decode cX1_tally 37 = .ok (.iastore, 1) := by decide +kernel
theorem dX1_tally_38 : decode cX1_tally 38 = .ok (.iinc 2 1, 3) := by decide +kernel
theorem dX1_tally_41 : decode cX1_tally 41 = .ok (.goto (-39), 3) := by decide +kernel
theorem dX1_tally_36 : decode cX1_tally 36 = .ok (.iconst 0, 1) := by decide +kernel
theorem dX1_tally_32 : decode cX1_tally 32 = .ok (.iconst 1, 1) := by decide +kernel
theorem dX1_tally_33 : decode cX1_tally 33 = .ok (.goto 4, 3) := by decide +kernel
set_option maxHeartbeats 4000000 in
set_option maxRecDepth 100000 in
theorem c_Folds_tally (l : Launch) (D : va_G) (cs : Nat → ClassId) (X : XX) (sz : Nat) (hf : Nat) (fp : Nat) (ft : Nat) (fb : Int32) (fh : Int32) (fm : Int32) (fd : Int32) (fpo : Nat → Int32) (fta : Nat → Int32) (x : Int32) (r_fb : Rg 0 8 fb) (r_fh : Rg 0 8 fh) : Met l yX1_tally (Cond.code yX1_tally cX1_tally 4 (some .int) :: TB) (RM 1 0 0) (va_Pc [.ref hf, .int x] (PRE D cs X [(hf, .inr (1, [.ref fp, .ref ft, .int fb, .int fh, .int fm, .int fd])), (fp, .inl ((cs 0), 8, .inl fpo)), (ft, .inl ((cs 0), 81, .inl fta))] [] sz)) (va_Qi (S := Unit) (fun r _ => True) (fun _ t => ∃ (fta2 : Nat → Int32), va_P D vwCl [(hf, .inr (1, [.ref fp, .ref ft, .int fb, .int fh, .int fm, .int fd])), (fp, .inl ((cs 0), 8, .inl fpo)), (ft, .inl ((cs 0), 81, .inl fta2))] t.heap ∧ va_D (va_A [(hf, .inr (1, [.ref fp, .ref ft, .int fb, .int fh, .int fm, .int fd])), (fp, .inl ((cs 0), 8, .inl fpo)), (ft, .inl ((cs 0), 81, .inl fta))] sz) [(hf, .inr (1, [.ref fp, .ref ft, .int fb, .int fh, .int fm, .int fd])), (fp, .inl ((cs 0), 8, .inl fpo)), (ft, .inl ((cs 0), 81, .inl fta2))]) (va_A [(hf, .inr (1, [.ref fp, .ref ft, .int fb, .int fh, .int fm, .int fd])), (fp, .inl ((cs 0), 8, .inl fpo)), (ft, .inl ((cs 0), 81, .inl fta))] sz)) 0 0 (va_A [(hf, .inr (1, [.ref fp, .ref ft, .int fb, .int fh, .int fm, .int fd])), (fp, .inl ((cs 0), 8, .inl fpo)), (ft, .inl ((cs 0), 81, .inl fta))] sz) := by
  refine MET (y := yX1_tally) (cc := cX1_tally) (maxL := 4) (ret := (some .int)) (d := 1) (mc := 0) (ms := 0) (D := D) (cs := cs) (X := X) (ws := [(hf, .inr (1, [.ref fp, .ref ft, .int fb, .int fh, .int fm, .int fd])), (fp, .inl ((cs 0), 8, .inl fpo)), (ft, .inl ((cs 0), 81, .inl fta))]) (wo := []) (sz := sz) (av := [.ref hf, .int x]) (Qc := fun A => va_Qi (S := Unit) (fun r _ => True) (fun _ t => ∃ (fta2 : Nat → Int32), va_P D vwCl [(hf, .inr (1, [.ref fp, .ref ft, .int fb, .int fh, .int fm, .int fd])), (fp, .inl ((cs 0), 8, .inl fpo)), (ft, .inl ((cs 0), 81, .inl fta2))] t.heap ∧ va_D A [(hf, .inr (1, [.ref fp, .ref ft, .int fb, .int fh, .int fm, .int fd])), (fp, .inl ((cs 0), 8, .inl fpo)), (ft, .inl ((cs 0), 81, .inl fta2))]) A) (by decide) (Nat.le_of_ble_eq_true rfl) ?_
  intro p e s m below meth c ls A H hHe hx hb hr hml hown hts hlocks hnm hP hK hD hA hS hN hR hX hXs hl
  have hD : va_D A [(hf, .inr (1, [.ref fp, .ref ft, .int fb, .int fh, .int fm, .int fd])), (fp, .inl ((cs 0), 8, .inl fpo)), (ft, .inl ((cs 0), 81, .inl fta))] := hD
  obtain ⟨locs, hlc⟩ : ∃ z : List Loc, z = [] := ⟨_, rfl⟩
  rw [← hlc] at hS ⊢
  have hown : s.vm.findClass "WrongHole$Folds" = some m.cls := hown
  have hT : ∀ w ∈ TB, w.before ([.ref hf, .int x] : List Value).toArray s = true := fun w h => hts w (List.mem_cons_of_mem _ h)
  have hl : lv_has ls 4 [(0, .ref hf), (1, .int x)] := hl
  have hP : va_P D vwCl [(hf, .inr (1, [.ref fp, .ref ft, .int fb, .int fh, .int fm, .int fd])), (fp, .inl ((cs 0), 8, .inl fpo)), (ft, .inl ((cs 0), 81, .inl fta))] H := hP
  refine lv_iconst (v := 0) hx hb dX1_tally_0 (by decide) ?_
  refine lv_istore_n (lv' := [(2, .int 0), (0, .ref hf), (1, .int x)]) hx hb dX1_tally_1 rfl hl (by decide) rfl (fun ls hl => ?_)
  refine w_wh (σ := (Int32) × (Nat → Int32)) (fun x9 H locs ls => match x9 with | (v_14, g_15) => Rg 0 9 v_14 ∧ va_P D vwCl [(hf, .inr (1, [.ref fp, .ref ft, .int fb, .int fh, .int fm, .int fd])), (fp, .inl ((cs 0), 8, .inl fpo)), (ft, .inl ((cs 0), 81, .inl g_15))] H ∧ va_D A [(hf, .inr (1, [.ref fp, .ref ft, .int fb, .int fh, .int fm, .int fd])), (fp, .inl ((cs 0), 8, .inl fpo)), (ft, .inl ((cs 0), 81, .inl g_15))] ∧ va_S A s.heap H locs ∧ lv_has ls 4 [(2, .int v_14), (0, .ref hf), (1, .int x)]) (fun x9 => match x9 with | (v_14, g_15) => (9 - Int32.toInt v_14).toNat) 2 ?_ (0, fta) H locs ls ⟨(Rg.wk (lo2 := 0) (hi2 := 9) (Rg.c (c := 0) (k := 0) rfl) (by decide)), hP, hD, hS, lv_sub hl [0, 1, 2] rfl⟩
  rintro ⟨v_14, g_15⟩ H locs ls ⟨r_15277, hP, hD, hS, hl⟩ ih_15276
  refine lv_iload_n hx hb dX1_tally_2 rfl (lv_at hl 0 rfl) ?_
  refine lv_aload_n hx hb dX1_tally_3 rfl (lv_at hl 1 rfl) ?_
  refine va_get (D := D) (ci := 1) (v := .int fh) (C := "WrongHole$Folds") (T := TX1) (N := 6) hx hb hts (iq_RX1 _) hown hK hP 0 rfl rfl 3 (by decide) (hT _ qq_1_186) (fun _ h9 => h9) rfl dX1_tally_4 ?_
  refine lv_icmp_gt (tgt := 44) hx hb dX1_tally_7 (by decide) (fun c_15278 => ?_) (fun c_15278 => ?_)
  · have r_15279 : Rg 1 9 v_14 := Rg.lt_r c_15278 r_fh r_15277 (by decide)
    refine lv_aload_n hx hb dX1_tally_44 rfl (lv_at hl 1 rfl) ?_
    refine va_get (D := D) (ci := 1) (v := .int fb) (C := "WrongHole$Folds") (T := TX1) (N := 6) hx hb hts (iq_RX1 _) hown hK hP 0 rfl rfl 2 (by decide) (hT _ qq_1_185) (fun _ h9 => h9) rfl dX1_tally_45 ?_
    refine lv_iconst (v := 1) hx hb dX1_tally_48 (by decide) ?_
    refine lv_isub hx hb dX1_tally_49 ?_
    refine lv_topi (fun x_15296 e_15297 => ?_)
    have r_15298 : Rg (-1) 7 x_15296 := Rg.sub e_15297 r_fb (Rg.c (c := 1) (k := 1) rfl) (by decide)
    refine lv_istore_n (lv' := [(2, .int x_15296), (0, .ref hf), (1, .int x)]) hx hb dX1_tally_50 rfl hl (by decide) rfl (fun ls hl => ?_)
    refine w_wh (σ := (Int32) × (Nat → Int32)) (fun x9 H locs ls => match x9 with | (v_15656, g_15657) => Rg (-1) 7 v_15656 ∧ va_P D vwCl [(hf, .inr (1, [.ref fp, .ref ft, .int fb, .int fh, .int fm, .int fd])), (fp, .inl ((cs 0), 8, .inl fpo)), (ft, .inl ((cs 0), 81, .inl g_15657))] H ∧ va_D A [(hf, .inr (1, [.ref fp, .ref ft, .int fb, .int fh, .int fm, .int fd])), (fp, .inl ((cs 0), 8, .inl fpo)), (ft, .inl ((cs 0), 81, .inl g_15657))] ∧ va_S A s.heap H locs ∧ lv_has ls 4 [(2, .int v_15656), (0, .ref hf), (1, .int x)]) (fun x9 => match x9 with | (v_15656, g_15657) => (Int32.toInt v_15656 - (-1)).toNat) 51 ?_ (x_15296, g_15) H locs ls ⟨r_15298, hP, hD, hS, lv_sub hl [0, 1, 2] rfl⟩
    rintro ⟨v_15656, g_15657⟩ H locs ls ⟨r_17087, hP, hD, hS, hl⟩ ih_17086
    refine lv_iload_n hx hb dX1_tally_51 rfl (lv_at hl 0 rfl) ?_
    refine lv_if_lt (tgt := 94) hx hb dX1_tally_52 (by decide) (fun c_17088 => ?_) (fun c_17088 => ?_)
    · have r_17089 : Rg (-1) (-1) v_15656 := Rg.lt_l c_17088 r_17087 (Rg.c (c := 0) (k := 0) rfl) (by decide)
      refine lv_aload_n hx hb dX1_tally_94 rfl (lv_at hl 1 rfl) ?_
      refine va_get (D := D) (ci := 1) (v := .ref ft) (C := "WrongHole$Folds") (T := TX1) (N := 6) hx hb hts (iq_RX1 _) hown hK hP 0 rfl rfl 1 (by decide) (hT _ qq_1_184) (fun _ h9 => h9) rfl dX1_tally_95 ?_
      refine lv_iconst (v := 0) hx hb dX1_tally_98 (by decide) ?_
      have hi_17267 : vp_in 0 81 := vi_c rfl
      refine va_iald hx hb hK hP 2 0 rfl rfl hi_17267 dX1_tally_99 ?_
      refine lv_topi (fun x_17268 e_17269 => ?_)
      refine W.widen (k := 0) (n := 0) (Nat.le_of_ble_eq_true rfl) (Nat.le_of_ble_eq_true rfl) ?_
      have hP9 := hP.sub (ws' := [(hf, .inr (1, [.ref fp, .ref ft, .int fb, .int fh, .int fm, .int fd])), (fp, .inl ((cs 0), 8, .inl fpo)), (ft, .inl ((cs 0), 81, .inl g_15657))]) [0, 1, 2] rfl
      have hD9 := hD.sub (ws' := [(hf, .inr (1, [.ref fp, .ref ft, .int fb, .int fh, .int fm, .int fd])), (fp, .inl ((cs 0), 8, .inl fpo)), (ft, .inl ((cs 0), 81, .inl g_15657))]) [0, 1, 2] (by decide) rfl
      exact W.iret (v := x_17268) hx hb hr (fun t9 ht9 hW9 => ⟨⟨_, (), rfl, trivial, ⟨g_15657, by rw [ht9]; exact hP9, hD9⟩⟩, hS.F ht9⟩) hS.2.2 dX1_tally_100
    · have r_17090 : Rg 0 7 v_15656 := Rg.le_r (nlt_le c_17088) (Rg.c (c := 0) (k := 0) rfl) r_17087 (by decide)
      refine lv_aload_n hx hb dX1_tally_55 rfl (lv_at hl 1 rfl) ?_
      refine va_get (D := D) (ci := 1) (v := .int fh) (C := "WrongHole$Folds") (T := TX1) (N := 6) hx hb hts (iq_RX1 _) hown hK hP 0 rfl rfl 3 (by decide) (hT _ qq_1_186) (fun _ h9 => h9) rfl dX1_tally_56 ?_
      refine lv_istore_n (lv' := [(3, .int fh), (2, .int v_15656), (0, .ref hf), (1, .int x)]) hx hb dX1_tally_59 rfl hl (by decide) rfl (fun ls hl => ?_)
      refine w_wh (σ := (Int32) × (Nat → Int32)) (fun x9 H locs ls => match x9 with | (v_17284, g_17285) => Rg (-1) 8 v_17284 ∧ va_P D vwCl [(hf, .inr (1, [.ref fp, .ref ft, .int fb, .int fh, .int fm, .int fd])), (fp, .inl ((cs 0), 8, .inl fpo)), (ft, .inl ((cs 0), 81, .inl g_17285))] H ∧ va_D A [(hf, .inr (1, [.ref fp, .ref ft, .int fb, .int fh, .int fm, .int fd])), (fp, .inl ((cs 0), 8, .inl fpo)), (ft, .inl ((cs 0), 81, .inl g_17285))] ∧ va_S A s.heap H locs ∧ lv_has ls 4 [(3, .int v_17284), (2, .int v_15656), (0, .ref hf), (1, .int x)]) (fun x9 => match x9 with | (v_17284, g_17285) => (Int32.toInt v_17284 - (-1)).toNat) 60 ?_ (fh, g_15657) H locs ls ⟨(Rg.wk (lo2 := (-1)) (hi2 := 8) r_fh (by decide)), hP, hD, hS, lv_sub hl [0, 1, 2, 3] rfl⟩
      rintro ⟨v_17284, g_17285⟩ H locs ls ⟨r_17415, hP, hD, hS, hl⟩ ih_17414
      refine lv_iload_n hx hb dX1_tally_60 rfl (lv_at hl 0 rfl) ?_
      refine lv_if_lt (tgt := 88) hx hb dX1_tally_61 (by decide) (fun c_17416 => ?_) (fun c_17416 => ?_)
      · have r_17417 : Rg (-1) (-1) v_17284 := Rg.lt_l c_17416 r_17415 (Rg.c (c := 0) (k := 0) rfl) (by decide)
        obtain ⟨x_17432, e_17433⟩ : ∃ z : Int32, z = v_15656 + Int32.ofInt (-1) := ⟨_, rfl⟩
        have r_17434 : Rg (-1) 6 x_17432 := Rg.add e_17433 r_17090 (Rg.c (c := Int32.ofInt (-1)) (k := (-1)) rfl) (by decide)
        refine lv_iinc (v := x_17432) (lv' := [(2, .int x_17432), (3, .int v_17284), (0, .ref hf), (1, .int x)]) hx hb dX1_tally_88 hl (k := 1) rfl (e_17433.symm) (by decide) rfl (fun ls hl => ?_)
        refine lv_goto (tgt := 51) hx hb dX1_tally_91 (by decide) ?_
        exact ih_17086 (x_17432, g_17285) _ _ _ ⟨(Rg.wk (lo2 := (-1)) (hi2 := 7) r_17434 (by decide)), hP, hD, hS, lv_sub hl [0, 2, 3] rfl⟩ (ms_dn e_17433 r_17090 (Rg.c (c := Int32.ofInt (-1)) (k := (-1)) rfl) (by decide))
      · have r_17418 : Rg 0 8 v_17284 := Rg.le_r (nlt_le c_17416) (Rg.c (c := 0) (k := 0) rfl) r_17415 (by decide)
        refine lv_aload_n hx hb dX1_tally_64 rfl (lv_at hl 2 rfl) ?_
        refine va_get (D := D) (ci := 1) (v := .ref ft) (C := "WrongHole$Folds") (T := TX1) (N := 6) hx hb hts (iq_RX1 _) hown hK hP 0 rfl rfl 1 (by decide) (hT _ qq_1_184) (fun _ h9 => h9) rfl dX1_tally_65 ?_
        refine lv_iload_n hx hb dX1_tally_68 rfl (lv_at hl 1 rfl) ?_
        refine lv_bipush (v := 9) hx hb dX1_tally_69 (by decide) ?_
        refine lv_imul hx hb dX1_tally_71 ?_
        refine lv_topi (fun x_17435 e_17436 => ?_)
        have r_17437 : Rg 0 63 x_17435 := Rg.mul (ha := 7) (hb := 9) e_17436 r_17090 (Rg.wk (lo2 := 0) (hi2 := 9) (Rg.c (c := 9) (k := 9) rfl) (by decide)) (by decide)
        refine lv_iload_n hx hb dX1_tally_72 rfl (lv_at hl 0 rfl) ?_
        refine lv_iadd hx hb dX1_tally_73 ?_
        refine lv_topi (fun x_17438 e_17439 => ?_)
        have r_17440 : Rg 0 71 x_17438 := Rg.add e_17439 r_17437 r_17418 (by decide)
        refine lv_aload_n hx hb dX1_tally_74 rfl (lv_at hl 2 rfl) ?_
        refine lv_iload_n hx hb dX1_tally_75 rfl (lv_at hl 1 rfl) ?_
        refine lv_iload_n hx hb dX1_tally_76 rfl (lv_at hl 0 rfl) ?_
        refine lv_iload_n hx hb dX1_tally_77 rfl (lv_at hl 3 rfl) ?_
        have hPc := va_P.sub (ws' := [(hf, .inr (1, [.ref fp, .ref ft, .int fb, .int fh, .int fm, .int fd])), (fp, .inl ((cs 0), 8, .inl fpo)), (ft, .inl ((cs 0), 81, .inl g_17285))]) hP [0, 1, 2] rfl
        refine cl_P (W.runV (As := [.int v_15656, .int v_17284, .int x]) (rest := [.int x_17438, .ref ft]) ⟨hx, hb, hml, hown, hts⟩ (c_Folds_tallyAt l D cs hf fp ft fb fh fm fd fpo g_17285 v_15656 v_17284 x r_fb r_fh r_17090 r_17418) ⟨callB_of 3 hts (gd_C qq_5_89) rfl rfl rfl (hT _ qq_1_8) (hT _ qq_5_86) (by decide +kernel) (rm_R rfl rfl), (hT _ qq_5_88), (hT _ qs_1_12)⟩ (pq_V hPc hK hN (ci := 1) (q0 := 0) rfl rfl) rfl rfl hl.1 rfl (lv_room (Nat.le_of_ble_eq_true rfl)) dX1_tally_78 ⟨Nat.le_of_ble_eq_true rfl, Nat.le_of_ble_eq_true rfl⟩) (fun v9 hz_17442 => ?_)
        obtain ⟨x_17441, rfl⟩ := hz_17442
        have hi_17444 : vp_in x_17438 81 := Rg.in r_17440 (by decide)
        refine va_iast hx hb hK hP hD hS 2 0 rfl rfl hi_17444 dX1_tally_81 (fun H locs hP hD hS => ?_)
        obtain ⟨g_17445, hP, hD⟩ : ∃ g_17445 : Nat → Int32, va_P D vwCl [(hf, .inr (1, [.ref fp, .ref ft, .int fb, .int fh, .int fm, .int fd])), (fp, .inl ((cs 0), 8, .inl fpo)), (ft, .inl ((cs 0), 81, .inl g_17445))] H ∧ va_D A [(hf, .inr (1, [.ref fp, .ref ft, .int fb, .int fh, .int fm, .int fd])), (fp, .inl ((cs 0), 8, .inl fpo)), (ft, .inl ((cs 0), 81, .inl g_17445))] := ⟨_, hP, hD⟩
        obtain ⟨x_17446, e_17447⟩ : ∃ z : Int32, z = v_17284 + Int32.ofInt (-1) := ⟨_, rfl⟩
        have r_17448 : Rg (-1) 7 x_17446 := Rg.add e_17447 r_17418 (Rg.c (c := Int32.ofInt (-1)) (k := (-1)) rfl) (by decide)
        refine lv_iinc (v := x_17446) (lv' := [(3, .int x_17446), (2, .int v_15656), (0, .ref hf), (1, .int x)]) hx hb dX1_tally_82 hl (k := 0) rfl (e_17447.symm) (by decide) rfl (fun ls hl => ?_)
        refine lv_goto (tgt := 60) hx hb dX1_tally_85 (by decide) ?_
        exact ih_17414 (x_17446, g_17445) _ _ _ ⟨(Rg.wk (lo2 := (-1)) (hi2 := 8) r_17448 (by decide)), hP, hD, hS, lv_sub hl [0, 1, 2, 3] rfl⟩ (ms_dn e_17447 r_17418 (Rg.c (c := Int32.ofInt (-1)) (k := (-1)) rfl) (by decide))
  · have r_15280 : Rg 0 8 v_14 := Rg.le_l (nlt_le c_15278) r_15277 r_fh (by decide)
    refine lv_aload_n hx hb dX1_tally_10 rfl (lv_at hl 1 rfl) ?_
    refine va_get (D := D) (ci := 1) (v := .ref ft) (C := "WrongHole$Folds") (T := TX1) (N := 6) hx hb hts (iq_RX1 _) hown hK hP 0 rfl rfl 1 (by decide) (hT _ qq_1_184) (fun _ h9 => h9) rfl dX1_tally_11 ?_
    refine lv_aload_n hx hb dX1_tally_14 rfl (lv_at hl 1 rfl) ?_
    refine va_get (D := D) (ci := 1) (v := .int fb) (C := "WrongHole$Folds") (T := TX1) (N := 6) hx hb hts (iq_RX1 _) hown hK hP 0 rfl rfl 2 (by decide) (hT _ qq_1_185) (fun _ h9 => h9) rfl dX1_tally_15 ?_
    refine lv_bipush (v := 9) hx hb dX1_tally_18 (by decide) ?_
    refine lv_imul hx hb dX1_tally_20 ?_
    refine lv_topi (fun x_17449 e_17450 => ?_)
    have r_17451 : Rg 0 72 x_17449 := Rg.mul (ha := 8) (hb := 9) e_17450 r_fb (Rg.wk (lo2 := 0) (hi2 := 9) (Rg.c (c := 9) (k := 9) rfl) (by decide)) (by decide)
    refine lv_iload_n hx hb dX1_tally_21 rfl (lv_at hl 0 rfl) ?_
    refine lv_iadd hx hb dX1_tally_22 ?_
    refine lv_topi (fun x_17452 e_17453 => ?_)
    have r_17454 : Rg 0 80 x_17452 := Rg.add e_17453 r_17451 r_15280 (by decide)
    refine lv_aload_n hx hb dX1_tally_23 rfl (lv_at hl 1 rfl) ?_
    refine va_get (D := D) (ci := 1) (v := .int fd) (C := "WrongHole$Folds") (T := TX1) (N := 6) hx hb hts (iq_RX1 _) hown hK hP 0 rfl rfl 5 (by decide) (hT _ qq_1_188) (fun _ h9 => h9) rfl dX1_tally_24 ?_
    refine lv_iload_n hx hb dX1_tally_27 rfl (lv_at hl 0 rfl) ?_
    refine lv_ishr hx hb dX1_tally_28 ?_
    refine lv_topi (fun x_17455 e_17456 => ?_)
    refine w_cut (σ := (Int32)) (fun (v_17459 : Int32) H locs ls => Rg 0 1 v_17459 ∧ va_P D vwCl [(hf, .inr (1, [.ref fp, .ref ft, .int fb, .int fh, .int fm, .int fd])), (fp, .inl ((cs 0), 8, .inl fpo)), (ft, .inl ((cs 0), 81, .inl g_15))] H ∧ va_D A [(hf, .inr (1, [.ref fp, .ref ft, .int fb, .int fh, .int fm, .int fd])), (fp, .inl ((cs 0), 8, .inl fpo)), (ft, .inl ((cs 0), 81, .inl g_15))] ∧ va_S A s.heap H locs ∧ lv_has ls 4 [(2, .int v_14), (0, .ref hf), (1, .int x)]) 37 (fun (v_17459 : Int32) => [.int v_17459, .int x_17452, .ref ft]) ?_ (fun hj_17460 => ?_)
    · rintro v_17459 H locs ls ⟨r_17461, hP, hD, hS, hl⟩
      have hi_17462 : vp_in x_17452 81 := Rg.in r_17454 (by decide)
      refine va_iast hx hb hK hP hD hS 2 0 rfl rfl hi_17462 dX1_tally_37 (fun H locs hP hD hS => ?_)
      obtain ⟨g_17463, hP, hD⟩ : ∃ g_17463 : Nat → Int32, va_P D vwCl [(hf, .inr (1, [.ref fp, .ref ft, .int fb, .int fh, .int fm, .int fd])), (fp, .inl ((cs 0), 8, .inl fpo)), (ft, .inl ((cs 0), 81, .inl g_17463))] H ∧ va_D A [(hf, .inr (1, [.ref fp, .ref ft, .int fb, .int fh, .int fm, .int fd])), (fp, .inl ((cs 0), 8, .inl fpo)), (ft, .inl ((cs 0), 81, .inl g_17463))] := ⟨_, hP, hD⟩
      obtain ⟨x_17464, e_17465⟩ : ∃ z : Int32, z = v_14 + Int32.ofInt 1 := ⟨_, rfl⟩
      have r_17466 : Rg 1 9 x_17464 := Rg.add e_17465 r_15280 (Rg.c (c := Int32.ofInt 1) (k := 1) rfl) (by decide)
      refine lv_iinc (v := x_17464) (lv' := [(2, .int x_17464), (0, .ref hf), (1, .int x)]) hx hb dX1_tally_38 hl (k := 0) rfl (e_17465.symm) (by decide) rfl (fun ls hl => ?_)
      refine lv_goto (tgt := 2) hx hb dX1_tally_41 (by decide) ?_
      exact ih_15276 (x_17464, g_17463) _ _ _ ⟨(Rg.wk (lo2 := 0) (hi2 := 9) r_17466 (by decide)), hP, hD, hS, lv_sub hl [0, 1, 2] rfl⟩ (ms_up e_17465 r_15280 (Rg.c (c := Int32.ofInt 1) (k := 1) rfl) (by decide))
    · refine lv_if_ne (tgt := 36) hx hb dX1_tally_29 (by decide) (fun c_17457 => ?_) (fun c_17457 => ?_)
      · refine lv_iconst (v := 0) hx hb dX1_tally_36 (by decide) ?_
        exact hj_17460 0 _ _ _ ⟨(Rg.wk (lo2 := 0) (hi2 := 1) (Rg.c (c := 0) (k := 0) rfl) (by decide)), hP, hD, hS, lv_sub hl [0, 1, 2] rfl⟩
      · have r_17458 : Rg 0 0 x_17455 := Rg.eq_l c_17457 (Rg.top x_17455) (Rg.c (c := 0) (k := 0) rfl) (by decide)
        refine lv_iconst (v := 1) hx hb dX1_tally_32 (by decide) ?_
        refine lv_goto (tgt := 37) hx hb dX1_tally_33 (by decide) ?_
        exact hj_17460 1 _ _ _ ⟨(Rg.wk (lo2 := 0) (hi2 := 1) (Rg.c (c := 1) (k := 1) rfl) (by decide)), hP, hD, hS, lv_sub hl [0, 1, 2] rfl⟩
theorem dX1_howMany_0 : decode cX1_howMany 0 = .ok (.aload_n 0, 1) := by decide +kernel
theorem dX1_howMany_1 : decode cX1_howMany 1 = .ok (.aload_n 0, 1) := by decide +kernel
theorem dX1_howMany_2 : decode cX1_howMany 2 = .ok (.getfield 34, 3) := by decide +kernel
theorem dX1_howMany_5 : decode cX1_howMany 5 = .ok (.invokevirtual 46, 3) := by decide +kernel
theorem qq_5_85 : Cond.code yX1_tally cX1_tally 4 (some .int) ∈ TB := mk_tb (ti_5 (List.mem_of_getElem? (i := 85) rfl)) rfl
theorem qq_5_82 : Cond.methodLink "WrongHole$Folds" 46 yX1_tally ∈ TB := mk_tb (ti_5 (List.mem_of_getElem? (i := 82) rfl)) rfl
theorem qq_5_84 : Cond.instanceMethod yX1_tally ∈ TB := mk_tb (ti_5 (List.mem_of_getElem? (i := 84) rfl)) rfl
theorem qs_1_11 : Cond.selects "WrongHole$Folds" yX1_tally yX1_tally ∈ TB := mk_tb (ti_s (q := (yX1_tally, 6)) (List.mem_append_right _ (List.mem_append_left _ (List.mem_of_getElem? (i := 11) rfl)))) rfl
theorem dX1_howMany_8 : decode cX1_howMany 8 = .ok (.ireturn, 1) := by decide +kernel
set_option maxHeartbeats 4000000 in
set_option maxRecDepth 100000 in
theorem c_Folds_howMany (l : Launch) (D : va_G) (cs : Nat → ClassId) (X : XX) (sz : Nat) (hf : Nat) (fp : Nat) (ft : Nat) (fb : Int32) (fh : Int32) (fm : Int32) (fd : Int32) (fpo : Nat → Int32) (fta : Nat → Int32) (r_fb : Rg 0 8 fb) (r_fh : Rg 0 8 fh) : Met l yX1_howMany (Cond.code yX1_howMany cX1_howMany 1 (some .int) :: TB) (RM 2 0 0) (va_Pc [.ref hf] (PRE D cs X [(hf, .inr (1, [.ref fp, .ref ft, .int fb, .int fh, .int fm, .int fd])), (fp, .inl ((cs 0), 8, .inl fpo)), (ft, .inl ((cs 0), 81, .inl fta))] [] sz)) (va_Qi (S := Unit) (fun r _ => True) (fun _ t => ∃ (fta2 : Nat → Int32), va_P D vwCl [(hf, .inr (1, [.ref fp, .ref ft, .int fb, .int fh, .int fm, .int fd])), (fp, .inl ((cs 0), 8, .inl fpo)), (ft, .inl ((cs 0), 81, .inl fta2))] t.heap ∧ va_D (va_A [(hf, .inr (1, [.ref fp, .ref ft, .int fb, .int fh, .int fm, .int fd])), (fp, .inl ((cs 0), 8, .inl fpo)), (ft, .inl ((cs 0), 81, .inl fta))] sz) [(hf, .inr (1, [.ref fp, .ref ft, .int fb, .int fh, .int fm, .int fd])), (fp, .inl ((cs 0), 8, .inl fpo)), (ft, .inl ((cs 0), 81, .inl fta2))]) (va_A [(hf, .inr (1, [.ref fp, .ref ft, .int fb, .int fh, .int fm, .int fd])), (fp, .inl ((cs 0), 8, .inl fpo)), (ft, .inl ((cs 0), 81, .inl fta))] sz)) 0 0 (va_A [(hf, .inr (1, [.ref fp, .ref ft, .int fb, .int fh, .int fm, .int fd])), (fp, .inl ((cs 0), 8, .inl fpo)), (ft, .inl ((cs 0), 81, .inl fta))] sz) := by
  refine MET (y := yX1_howMany) (cc := cX1_howMany) (maxL := 1) (ret := (some .int)) (d := 2) (mc := 0) (ms := 0) (D := D) (cs := cs) (X := X) (ws := [(hf, .inr (1, [.ref fp, .ref ft, .int fb, .int fh, .int fm, .int fd])), (fp, .inl ((cs 0), 8, .inl fpo)), (ft, .inl ((cs 0), 81, .inl fta))]) (wo := []) (sz := sz) (av := [.ref hf]) (Qc := fun A => va_Qi (S := Unit) (fun r _ => True) (fun _ t => ∃ (fta2 : Nat → Int32), va_P D vwCl [(hf, .inr (1, [.ref fp, .ref ft, .int fb, .int fh, .int fm, .int fd])), (fp, .inl ((cs 0), 8, .inl fpo)), (ft, .inl ((cs 0), 81, .inl fta2))] t.heap ∧ va_D A [(hf, .inr (1, [.ref fp, .ref ft, .int fb, .int fh, .int fm, .int fd])), (fp, .inl ((cs 0), 8, .inl fpo)), (ft, .inl ((cs 0), 81, .inl fta2))]) A) (by decide) (Nat.le_of_ble_eq_true rfl) ?_
  intro p e s m below meth c ls A H hHe hx hb hr hml hown hts hlocks hnm hP hK hD hA hS hN hR hX hXs hl
  have hD : va_D A [(hf, .inr (1, [.ref fp, .ref ft, .int fb, .int fh, .int fm, .int fd])), (fp, .inl ((cs 0), 8, .inl fpo)), (ft, .inl ((cs 0), 81, .inl fta))] := hD
  obtain ⟨locs, hlc⟩ : ∃ z : List Loc, z = [] := ⟨_, rfl⟩
  rw [← hlc] at hS ⊢
  have hown : s.vm.findClass "WrongHole$Folds" = some m.cls := hown
  have hT : ∀ w ∈ TB, w.before ([.ref hf] : List Value).toArray s = true := fun w h => hts w (List.mem_cons_of_mem _ h)
  have hl : lv_has ls 1 [(0, .ref hf)] := hl
  have hP : va_P D vwCl [(hf, .inr (1, [.ref fp, .ref ft, .int fb, .int fh, .int fm, .int fd])), (fp, .inl ((cs 0), 8, .inl fpo)), (ft, .inl ((cs 0), 81, .inl fta))] H := hP
  refine lv_aload_n hx hb dX1_howMany_0 rfl (lv_at hl 0 rfl) ?_
  refine lv_aload_n hx hb dX1_howMany_1 rfl (lv_at hl 0 rfl) ?_
  refine va_get (D := D) (ci := 1) (v := .int fm) (C := "WrongHole$Folds") (T := TX1) (N := 6) hx hb hts (iq_RX1 _) hown hK hP 0 rfl rfl 4 (by decide) (hT _ qq_1_187) (fun _ h9 => h9) rfl dX1_howMany_2 ?_
  have hPc := hP.sub (ws' := [(hf, .inr (1, [.ref fp, .ref ft, .int fb, .int fh, .int fm, .int fd])), (fp, .inl ((cs 0), 8, .inl fpo)), (ft, .inl ((cs 0), 81, .inl fta))]) [0, 1, 2] rfl
  have hDc := hD.sub (ws' := [(hf, .inr (1, [.ref fp, .ref ft, .int fb, .int fh, .int fm, .int fd])), (fp, .inl ((cs 0), 8, .inl fpo)), (ft, .inl ((cs 0), 81, .inl fta))]) [0, 1, 2] (by decide) rfl
  have hFc := va_free (wc := [(hf, .inr (1, [.ref fp, .ref ft, .int fb, .int fh, .int fm, .int fd])), (fp, .inl ((cs 0), 8, .inl fpo)), (ft, .inl ((cs 0), 81, .inl fta))]) hD hS hA [0, 1, 2] rfl
  refine va_calli (va_runV (As := [.int fm]) (rest := []) ⟨hx, hb, hml, hown, hts⟩ (c_Folds_tally l D cs X H.size hf fp ft fb fh fm fd fpo fta fm r_fb r_fh) ⟨callB_of 1 hts (gd_C qq_5_85) rfl rfl rfl (hT _ qq_1_8) (hT _ qq_5_82) (by decide +kernel) (rm_R rfl rfl), (hT _ qq_5_84), (hT _ qs_1_11)⟩ (pr_V hPc hK hDc hN (hR.sub (wo' := []) [] rfl) hS hFc hX hXs (ci := 1) (q0 := 0) rfl rfl) rfl rfl hl.1 rfl (lv_room (Nat.le_of_ble_eq_true rfl)) dX1_howMany_5 ⟨Nat.le_of_ble_eq_true rfl, Nat.le_of_ble_eq_true rfl⟩) hS (fun q _ h => hFc q h) hFc (fun x_5 u_1 t_4 H1 locs ht9 hvm hw_2 hB_3 hz1 hk1 hS => ?_)
  obtain ⟨g_6, hP1, hD1⟩ := hB_3
  rw [ht9] at hP1
  obtain ⟨hP, hD⟩ := va_join (wr := []) (w1 := [(hf, .inr (1, [.ref fp, .ref ft, .int fb, .int fh, .int fm, .int fd])), (fp, .inl ((cs 0), 8, .inl fpo)), (ft, .inl ((cs 0), 81, .inl g_6))]) hP hD [0, 1, 2] [] rfl rfl (by decide) (by decide) hk1 hFc hP1 hD1
  generalize H1 = H at hP hS ⊢
  have hP : va_P D vwCl [(hf, .inr (1, [.ref fp, .ref ft, .int fb, .int fh, .int fm, .int fd])), (fp, .inl ((cs 0), 8, .inl fpo)), (ft, .inl ((cs 0), 81, .inl g_6))] H := hP
  have hD : va_D A [(hf, .inr (1, [.ref fp, .ref ft, .int fb, .int fh, .int fm, .int fd])), (fp, .inl ((cs 0), 8, .inl fpo)), (ft, .inl ((cs 0), 81, .inl g_6))] := hD
  refine W.widen (k := 0) (n := 0) (Nat.le_of_ble_eq_true rfl) (Nat.le_of_ble_eq_true rfl) ?_
  have hP9 := hP.sub (ws' := [(hf, .inr (1, [.ref fp, .ref ft, .int fb, .int fh, .int fm, .int fd])), (fp, .inl ((cs 0), 8, .inl fpo)), (ft, .inl ((cs 0), 81, .inl g_6))]) [0, 1, 2] rfl
  have hD9 := hD.sub (ws' := [(hf, .inr (1, [.ref fp, .ref ft, .int fb, .int fh, .int fm, .int fd])), (fp, .inl ((cs 0), 8, .inl fpo)), (ft, .inl ((cs 0), 81, .inl g_6))]) [0, 1, 2] (by decide) rfl
  exact W.iret (v := x_5) hx hb hr (fun t9 ht9 hW9 => ⟨⟨_, (), rfl, trivial, ⟨g_6, by rw [ht9]; exact hP9, hD9⟩⟩, hS.F ht9⟩) hS.2.2 dX1_howMany_8
theorem dX1_inAll_0 : decode cX1_inAll 0 = .ok (.iconst 0, 1) := by decide +kernel
theorem dX1_inAll_1 : decode cX1_inAll 1 = .ok (.istore_n 1, 1) := by decide +kernel
theorem dX1_inAll_2 : decode cX1_inAll 2 = .ok (.aload_n 0, 1) := by decide +kernel
theorem dX1_inAll_3 : decode cX1_inAll 3 = .ok (.invokevirtual 50, 3) := by decide +kernel
theorem qq_5_81 : Cond.code yX1_howMany cX1_howMany 1 (some .int) ∈ TB := mk_tb (ti_5 (List.mem_of_getElem? (i := 81) rfl)) rfl
theorem qq_5_94 : Cond.methodLink "WrongHole$Folds" 50 yX1_howMany ∈ TB := mk_tb (ti_5 (List.mem_of_getElem? (i := 94) rfl)) rfl
theorem qq_5_79 : Cond.instanceMethod yX1_howMany ∈ TB := mk_tb (ti_5 (List.mem_of_getElem? (i := 79) rfl)) rfl
theorem qq_5_80 : Cond.selects "WrongHole$Folds" yX1_howMany yX1_howMany ∈ TB := mk_tb (ti_5 (List.mem_of_getElem? (i := 80) rfl)) rfl
theorem dX1_inAll_6 : decode cX1_inAll 6 = .ok (.ifCond .ne 5, 3) := by decide +kernel
theorem dX1_inAll_11 : decode cX1_inAll 11 = .ok (.iconst 0, 1) := by decide +kernel
theorem dX1_inAll_12 : decode cX1_inAll 12 = .ok (.istore_n 2, 1) := by decide +kernel
theorem dX1_inAll_13 : decode cX1_inAll 13 = .ok (.iload_n 2, 1) := by decide +kernel
theorem dX1_inAll_14 : decode cX1_inAll 14 = .ok (.aload_n 0, 1) := by decide +kernel
theorem dX1_inAll_15 : decode cX1_inAll 15 = .ok (.getfield 29, 3) := by decide +kernel
theorem dX1_inAll_18 : decode cX1_inAll 18 = .ok (.if_icmp .ge 51, 3) := by decide +kernel
theorem dX1_inAll_69 : decode cX1_inAll 69 = .ok (.iload_n 1, 1) := by decide +kernel
theorem dX1_inAll_70 : decode cX1_inAll 70 = .ok (.ireturn, 1) := by decide +kernel
theorem dX1_inAll_21 : decode cX1_inAll 21 = .ok (.aload_n 0, 1) := by decide +kernel
theorem dX1_inAll_22 : decode cX1_inAll 22 = .ok (.getfield 7, 3) := by decide +kernel
theorem dX1_inAll_25 : decode cX1_inAll 25 = .ok (.iload_n 2, 1) := by decide +kernel
theorem dX1_inAll_26 : decode cX1_inAll 26 = .ok (.iaload, 1) := by decide +kernel
theorem dX1_inAll_27 : decode cX1_inAll 27 = .ok (.istore_n 3, 1) := by decide +kernel
theorem dX1_inAll_28 : decode cX1_inAll 28 = .ok (.aload_n 0, 1) := by decide +kernel
theorem dX1_inAll_29 : decode cX1_inAll 29 = .ok (.getfield 7, 3) := by decide +kernel
theorem dX1_inAll_32 : decode cX1_inAll 32 = .ok (.iload_n 2, 1) := by decide +kernel
theorem dX1_inAll_33 : decode cX1_inAll 33 = .ok (.iconst 0, 1) := by decide +kernel
theorem dX1_inAll_34 : decode cX1_inAll 34 = .ok (.iastore, 1) := by decide +kernel
theorem dX1_inAll_35 : decode cX1_inAll 35 = .ok (.iload_n 1, 1) := by decide +kernel
theorem dX1_inAll_36 : decode cX1_inAll 36 = .ok (.aload_n 0, 1) := by decide +kernel
theorem dX1_inAll_37 : decode cX1_inAll 37 = .ok (.aload_n 0, 1) := by decide +kernel
theorem dX1_inAll_38 : decode cX1_inAll 38 = .ok (.getfield 34, 3) := by decide +kernel
theorem dX1_inAll_41 : decode cX1_inAll 41 = .ok (.invokevirtual 46, 3) := by decide +kernel
theorem dX1_inAll_44 : decode cX1_inAll 44 = .ok (.ifCond .ne 9, 3) := by decide +kernel
theorem dX1_inAll_54 : decode cX1_inAll 54 = .ok (.ior, 1) := by decide +kernel
theorem dX1_inAll_55 : decode cX1_inAll 55 = .ok (.istore_n 1, 1) := by decide +kernel
theorem dX1_inAll_56 : decode cX1_inAll 56 = .ok (.aload_n 0, 1) := by decide +kernel
theorem dX1_inAll_57 : decode cX1_inAll 57 = .ok (.getfield 7, 3) := by decide +kernel
theorem dX1_inAll_60 : decode cX1_inAll 60 = .ok (.iload_n 2, 1) := by decide +kernel
theorem dX1_inAll_61 : decode cX1_inAll 61 = .ok (.iload_n 3, 1) := by decide +kernel
theorem dX1_inAll_62 : decode cX1_inAll 62 = .ok (.iastore, 1) := by decide +kernel
theorem dX1_inAll_63 : decode cX1_inAll 63 = .ok (.iinc 2 1, 3) := by decide +kernel
theorem dX1_inAll_66 : decode cX1_inAll 66 = .ok (.goto (-53), 3) := by decide +kernel
theorem dX1_inAll_53 : decode cX1_inAll 53 = .ok (.iconst 0, 1) := by decide +kernel
theorem dX1_inAll_47 : decode cX1_inAll 47 = .ok (.iconst 1, 1) := by decide +kernel
theorem dX1_inAll_48 : decode cX1_inAll 48 = .ok (.iload_n 2, 1) := by decide +kernel
theorem dX1_inAll_49 : decode cX1_inAll 49 = .ok (.ishl, 1) := by decide +kernel
theorem dX1_inAll_50 : decode cX1_inAll 50 = .ok (.goto 4, 3) := by decide +kernel
theorem dX1_inAll_9 : decode cX1_inAll 9 = .ok (.iload_n 1, 1) := by decide +kernel
theorem dX1_inAll_10 : decode cX1_inAll 10 = .ok (.ireturn, 1) := by decide +kernel
set_option maxHeartbeats 4000000 in
set_option maxRecDepth 100000 in
theorem c_Folds_inAll (l : Launch) (D : va_G) (cs : Nat → ClassId) (X : XX) (sz : Nat) (hf : Nat) (fp : Nat) (ft : Nat) (fb : Int32) (fh : Int32) (fm : Int32) (fd : Int32) (fpo : Nat → Int32) (fta : Nat → Int32) (r_fb : Rg 0 8 fb) (r_fh : Rg 0 8 fh) : Met l yX1_inAll (Cond.code yX1_inAll cX1_inAll 4 (some .int) :: TB) (RM 3 0 0) (va_Pc [.ref hf] (PRE D cs X [(hf, .inr (1, [.ref fp, .ref ft, .int fb, .int fh, .int fm, .int fd])), (fp, .inl ((cs 0), 8, .inl fpo)), (ft, .inl ((cs 0), 81, .inl fta))] [] sz)) (va_Qi (S := Unit) (fun r _ => True) (fun _ t => ∃ (fpo2 : Nat → Int32), ∃ (fta2 : Nat → Int32), va_P D vwCl [(hf, .inr (1, [.ref fp, .ref ft, .int fb, .int fh, .int fm, .int fd])), (fp, .inl ((cs 0), 8, .inl fpo2)), (ft, .inl ((cs 0), 81, .inl fta2))] t.heap ∧ va_D (va_A [(hf, .inr (1, [.ref fp, .ref ft, .int fb, .int fh, .int fm, .int fd])), (fp, .inl ((cs 0), 8, .inl fpo)), (ft, .inl ((cs 0), 81, .inl fta))] sz) [(hf, .inr (1, [.ref fp, .ref ft, .int fb, .int fh, .int fm, .int fd])), (fp, .inl ((cs 0), 8, .inl fpo2)), (ft, .inl ((cs 0), 81, .inl fta2))]) (va_A [(hf, .inr (1, [.ref fp, .ref ft, .int fb, .int fh, .int fm, .int fd])), (fp, .inl ((cs 0), 8, .inl fpo)), (ft, .inl ((cs 0), 81, .inl fta))] sz)) 0 0 (va_A [(hf, .inr (1, [.ref fp, .ref ft, .int fb, .int fh, .int fm, .int fd])), (fp, .inl ((cs 0), 8, .inl fpo)), (ft, .inl ((cs 0), 81, .inl fta))] sz) := by
  refine MET (y := yX1_inAll) (cc := cX1_inAll) (maxL := 4) (ret := (some .int)) (d := 3) (mc := 0) (ms := 0) (D := D) (cs := cs) (X := X) (ws := [(hf, .inr (1, [.ref fp, .ref ft, .int fb, .int fh, .int fm, .int fd])), (fp, .inl ((cs 0), 8, .inl fpo)), (ft, .inl ((cs 0), 81, .inl fta))]) (wo := []) (sz := sz) (av := [.ref hf]) (Qc := fun A => va_Qi (S := Unit) (fun r _ => True) (fun _ t => ∃ (fpo2 : Nat → Int32), ∃ (fta2 : Nat → Int32), va_P D vwCl [(hf, .inr (1, [.ref fp, .ref ft, .int fb, .int fh, .int fm, .int fd])), (fp, .inl ((cs 0), 8, .inl fpo2)), (ft, .inl ((cs 0), 81, .inl fta2))] t.heap ∧ va_D A [(hf, .inr (1, [.ref fp, .ref ft, .int fb, .int fh, .int fm, .int fd])), (fp, .inl ((cs 0), 8, .inl fpo2)), (ft, .inl ((cs 0), 81, .inl fta2))]) A) (by decide) (Nat.le_of_ble_eq_true rfl) ?_
  intro p e s m below meth c ls A H hHe hx hb hr hml hown hts hlocks hnm hP hK hD hA hS hN hR hX hXs hl
  have hD : va_D A [(hf, .inr (1, [.ref fp, .ref ft, .int fb, .int fh, .int fm, .int fd])), (fp, .inl ((cs 0), 8, .inl fpo)), (ft, .inl ((cs 0), 81, .inl fta))] := hD
  obtain ⟨locs, hlc⟩ : ∃ z : List Loc, z = [] := ⟨_, rfl⟩
  rw [← hlc] at hS ⊢
  have hown : s.vm.findClass "WrongHole$Folds" = some m.cls := hown
  have hT : ∀ w ∈ TB, w.before ([.ref hf] : List Value).toArray s = true := fun w h => hts w (List.mem_cons_of_mem _ h)
  have hl : lv_has ls 4 [(0, .ref hf)] := hl
  have hP : va_P D vwCl [(hf, .inr (1, [.ref fp, .ref ft, .int fb, .int fh, .int fm, .int fd])), (fp, .inl ((cs 0), 8, .inl fpo)), (ft, .inl ((cs 0), 81, .inl fta))] H := hP
  refine lv_iconst (v := 0) hx hb dX1_inAll_0 (by decide) ?_
  refine lv_istore_n (lv' := [(1, .int 0), (0, .ref hf)]) hx hb dX1_inAll_1 rfl hl (by decide) rfl (fun ls hl => ?_)
  refine lv_aload_n hx hb dX1_inAll_2 rfl (lv_at hl 1 rfl) ?_
  have hPc := hP.sub (ws' := [(hf, .inr (1, [.ref fp, .ref ft, .int fb, .int fh, .int fm, .int fd])), (fp, .inl ((cs 0), 8, .inl fpo)), (ft, .inl ((cs 0), 81, .inl fta))]) [0, 1, 2] rfl
  have hDc := hD.sub (ws' := [(hf, .inr (1, [.ref fp, .ref ft, .int fb, .int fh, .int fm, .int fd])), (fp, .inl ((cs 0), 8, .inl fpo)), (ft, .inl ((cs 0), 81, .inl fta))]) [0, 1, 2] (by decide) rfl
  have hFc := va_free (wc := [(hf, .inr (1, [.ref fp, .ref ft, .int fb, .int fh, .int fm, .int fd])), (fp, .inl ((cs 0), 8, .inl fpo)), (ft, .inl ((cs 0), 81, .inl fta))]) hD hS hA [0, 1, 2] rfl
  refine va_calli (va_runV (As := []) (rest := []) ⟨hx, hb, hml, hown, hts⟩ (c_Folds_howMany l D cs X H.size hf fp ft fb fh fm fd fpo fta r_fb r_fh) ⟨callB_of 0 hts (gd_C qq_5_81) rfl rfl rfl (hT _ qq_1_8) (hT _ qq_5_94) (by decide +kernel) (rm_R rfl rfl), (hT _ qq_5_79), (hT _ qq_5_80)⟩ (pr_V hPc hK hDc hN (hR.sub (wo' := []) [] rfl) hS hFc hX hXs (ci := 1) (q0 := 0) rfl rfl) rfl rfl hl.1 rfl (lv_room (Nat.le_of_ble_eq_true rfl)) dX1_inAll_3 ⟨Nat.le_of_ble_eq_true rfl, Nat.le_of_ble_eq_true rfl⟩) hS (fun q _ h => hFc q h) hFc (fun x_5 u_1 t_4 H1 locs ht9 hvm hw_2 hB_3 hz1 hk1 hS => ?_)
  obtain ⟨g_6, hP1, hD1⟩ := hB_3
  rw [ht9] at hP1
  obtain ⟨hP, hD⟩ := va_join (wr := []) (w1 := [(hf, .inr (1, [.ref fp, .ref ft, .int fb, .int fh, .int fm, .int fd])), (fp, .inl ((cs 0), 8, .inl fpo)), (ft, .inl ((cs 0), 81, .inl g_6))]) hP hD [0, 1, 2] [] rfl rfl (by decide) (by decide) hk1 hFc hP1 hD1
  generalize H1 = H at hP hS ⊢
  have hP : va_P D vwCl [(hf, .inr (1, [.ref fp, .ref ft, .int fb, .int fh, .int fm, .int fd])), (fp, .inl ((cs 0), 8, .inl fpo)), (ft, .inl ((cs 0), 81, .inl g_6))] H := hP
  have hD : va_D A [(hf, .inr (1, [.ref fp, .ref ft, .int fb, .int fh, .int fm, .int fd])), (fp, .inl ((cs 0), 8, .inl fpo)), (ft, .inl ((cs 0), 81, .inl g_6))] := hD
  refine lv_if_ne (tgt := 11) hx hb dX1_inAll_6 (by decide) (fun c_7 => ?_) (fun c_7 => ?_)
  · refine lv_iconst (v := 0) hx hb dX1_inAll_11 (by decide) ?_
    refine lv_istore_n (lv' := [(2, .int 0), (1, .int 0), (0, .ref hf)]) hx hb dX1_inAll_12 rfl hl (by decide) rfl (fun ls hl => ?_)
    refine w_wh (σ := (Int32) × (Int32) × (Nat → Int32) × (Nat → Int32)) (fun x9 H locs ls => match x9 with | (v_44, v_45, g_46, g_47) => Rg 0 8 v_44 ∧ va_P D vwCl [(hf, .inr (1, [.ref fp, .ref ft, .int fb, .int fh, .int fm, .int fd])), (fp, .inl ((cs 0), 8, .inl g_46)), (ft, .inl ((cs 0), 81, .inl g_47))] H ∧ va_D A [(hf, .inr (1, [.ref fp, .ref ft, .int fb, .int fh, .int fm, .int fd])), (fp, .inl ((cs 0), 8, .inl g_46)), (ft, .inl ((cs 0), 81, .inl g_47))] ∧ va_S A s.heap H locs ∧ lv_has ls 4 [(2, .int v_44), (1, .int v_45), (0, .ref hf)]) (fun x9 => match x9 with | (v_44, v_45, g_46, g_47) => (8 - Int32.toInt v_44).toNat) 13 ?_ (0, 0, fpo, g_6) H locs ls ⟨(Rg.wk (lo2 := 0) (hi2 := 8) (Rg.c (c := 0) (k := 0) rfl) (by decide)), hP, hD, hS, lv_sub hl [0, 1, 2] rfl⟩
    rintro ⟨v_44, v_45, g_46, g_47⟩ H locs ls ⟨r_459, hP, hD, hS, hl⟩ ih_458
    refine lv_iload_n hx hb dX1_inAll_13 rfl (lv_at hl 0 rfl) ?_
    refine lv_aload_n hx hb dX1_inAll_14 rfl (lv_at hl 2 rfl) ?_
    refine va_get (D := D) (ci := 1) (v := .int fb) (C := "WrongHole$Folds") (T := TX1) (N := 6) hx hb hts (iq_RX1 _) hown hK hP 0 rfl rfl 2 (by decide) (hT _ qq_1_185) (fun _ h9 => h9) rfl dX1_inAll_15 ?_
    refine lv_icmp_ge (tgt := 69) hx hb dX1_inAll_18 (by decide) (fun c_460 => ?_) (fun c_460 => ?_)
    · refine lv_iload_n hx hb dX1_inAll_69 rfl (lv_at hl 1 rfl) ?_
      refine W.widen (k := 0) (n := 0) (Nat.le_of_ble_eq_true rfl) (Nat.le_of_ble_eq_true rfl) ?_
      have hP9 := hP.sub (ws' := [(hf, .inr (1, [.ref fp, .ref ft, .int fb, .int fh, .int fm, .int fd])), (fp, .inl ((cs 0), 8, .inl g_46)), (ft, .inl ((cs 0), 81, .inl g_47))]) [0, 1, 2] rfl
      have hD9 := hD.sub (ws' := [(hf, .inr (1, [.ref fp, .ref ft, .int fb, .int fh, .int fm, .int fd])), (fp, .inl ((cs 0), 8, .inl g_46)), (ft, .inl ((cs 0), 81, .inl g_47))]) [0, 1, 2] (by decide) rfl
      exact W.iret (v := v_45) hx hb hr (fun t9 ht9 hW9 => ⟨⟨_, (), rfl, trivial, ⟨g_46, g_47, by rw [ht9]; exact hP9, hD9⟩⟩, hS.F ht9⟩) hS.2.2 dX1_inAll_70
    · have r_461 : Rg 0 7 v_44 := Rg.lt_l (nle_lt c_460) r_459 r_fb (by decide)
      have r_462 : Rg 1 8 fb := Rg.lt_r (nle_lt c_460) r_459 r_fb (by decide)
      refine lv_aload_n hx hb dX1_inAll_21 rfl (lv_at hl 2 rfl) ?_
      refine va_get (D := D) (ci := 1) (v := .ref fp) (C := "WrongHole$Folds") (T := TX1) (N := 6) hx hb hts (iq_RX1 _) hown hK hP 0 rfl rfl 0 (by decide) (hT _ qq_1_183) (fun _ h9 => h9) rfl dX1_inAll_22 ?_
      refine lv_iload_n hx hb dX1_inAll_25 rfl (lv_at hl 0 rfl) ?_
      have hi_487 : vp_in v_44 8 := Rg.in r_461 (by decide)
      refine va_iald hx hb hK hP 1 0 rfl rfl hi_487 dX1_inAll_26 ?_
      refine lv_topi (fun x_488 e_489 => ?_)
      refine lv_istore_n (lv' := [(3, .int x_488), (2, .int v_44), (1, .int v_45), (0, .ref hf)]) hx hb dX1_inAll_27 rfl hl (by decide) rfl (fun ls hl => ?_)
      refine lv_aload_n hx hb dX1_inAll_28 rfl (lv_at hl 3 rfl) ?_
      refine va_get (D := D) (ci := 1) (v := .ref fp) (C := "WrongHole$Folds") (T := TX1) (N := 6) hx hb hts (iq_RX1 _) hown hK hP 0 rfl rfl 0 (by decide) (hT _ qq_1_183) (fun _ h9 => h9) rfl dX1_inAll_29 ?_
      refine lv_iload_n hx hb dX1_inAll_32 rfl (lv_at hl 1 rfl) ?_
      refine lv_iconst (v := 0) hx hb dX1_inAll_33 (by decide) ?_
      have hi_490 : vp_in v_44 8 := Rg.in r_461 (by decide)
      refine va_iast hx hb hK hP hD hS 1 0 rfl rfl hi_490 dX1_inAll_34 (fun H locs hP hD hS => ?_)
      obtain ⟨g_491, hP, hD⟩ : ∃ g_491 : Nat → Int32, va_P D vwCl [(hf, .inr (1, [.ref fp, .ref ft, .int fb, .int fh, .int fm, .int fd])), (fp, .inl ((cs 0), 8, .inl g_491)), (ft, .inl ((cs 0), 81, .inl g_47))] H ∧ va_D A [(hf, .inr (1, [.ref fp, .ref ft, .int fb, .int fh, .int fm, .int fd])), (fp, .inl ((cs 0), 8, .inl g_491)), (ft, .inl ((cs 0), 81, .inl g_47))] := ⟨_, hP, hD⟩
      refine lv_iload_n hx hb dX1_inAll_35 rfl (lv_at hl 2 rfl) ?_
      refine lv_aload_n hx hb dX1_inAll_36 rfl (lv_at hl 3 rfl) ?_
      refine lv_aload_n hx hb dX1_inAll_37 rfl (lv_at hl 3 rfl) ?_
      refine va_get (D := D) (ci := 1) (v := .int fm) (C := "WrongHole$Folds") (T := TX1) (N := 6) hx hb hts (iq_RX1 _) hown hK hP 0 rfl rfl 4 (by decide) (hT _ qq_1_187) (fun _ h9 => h9) rfl dX1_inAll_38 ?_
      have hPc := hP.sub (ws' := [(hf, .inr (1, [.ref fp, .ref ft, .int fb, .int fh, .int fm, .int fd])), (fp, .inl ((cs 0), 8, .inl g_491)), (ft, .inl ((cs 0), 81, .inl g_47))]) [0, 1, 2] rfl
      have hDc := hD.sub (ws' := [(hf, .inr (1, [.ref fp, .ref ft, .int fb, .int fh, .int fm, .int fd])), (fp, .inl ((cs 0), 8, .inl g_491)), (ft, .inl ((cs 0), 81, .inl g_47))]) [0, 1, 2] (by decide) rfl
      have hFc := va_free (wc := [(hf, .inr (1, [.ref fp, .ref ft, .int fb, .int fh, .int fm, .int fd])), (fp, .inl ((cs 0), 8, .inl g_491)), (ft, .inl ((cs 0), 81, .inl g_47))]) hD hS hA [0, 1, 2] rfl
      refine va_calli (va_runV (As := [.int fm]) (rest := [.int v_45]) ⟨hx, hb, hml, hown, hts⟩ (c_Folds_tally l D cs X H.size hf fp ft fb fh fm fd g_491 g_47 fm (Rg.wk (lo2 := 0) (hi2 := 8) r_462 (by decide)) r_fh) ⟨callB_of 1 hts (gd_C qq_5_85) rfl rfl rfl (hT _ qq_1_8) (hT _ qq_5_82) (by decide +kernel) (rm_R rfl rfl), (hT _ qq_5_84), (hT _ qs_1_11)⟩ (pr_V hPc hK hDc hN (hR.sub (wo' := []) [] rfl) hS hFc hX hXs (ci := 1) (q0 := 0) rfl rfl) rfl rfl hl.1 rfl (lv_room (Nat.le_of_ble_eq_true rfl)) dX1_inAll_41 ⟨Nat.le_of_ble_eq_true rfl, Nat.le_of_ble_eq_true rfl⟩) hS (fun q _ h => hFc q h) hFc (fun x_496 u_492 t_495 H1 locs ht9 hvm hw_493 hB_494 hz1 hk1 hS => ?_)
      obtain ⟨g_497, hP1, hD1⟩ := hB_494
      rw [ht9] at hP1
      obtain ⟨hP, hD⟩ := va_join (wr := []) (w1 := [(hf, .inr (1, [.ref fp, .ref ft, .int fb, .int fh, .int fm, .int fd])), (fp, .inl ((cs 0), 8, .inl g_491)), (ft, .inl ((cs 0), 81, .inl g_497))]) hP hD [0, 1, 2] [] rfl rfl (by decide) (by decide) hk1 hFc hP1 hD1
      generalize H1 = H at hP hS ⊢
      have hP : va_P D vwCl [(hf, .inr (1, [.ref fp, .ref ft, .int fb, .int fh, .int fm, .int fd])), (fp, .inl ((cs 0), 8, .inl g_491)), (ft, .inl ((cs 0), 81, .inl g_497))] H := hP
      have hD : va_D A [(hf, .inr (1, [.ref fp, .ref ft, .int fb, .int fh, .int fm, .int fd])), (fp, .inl ((cs 0), 8, .inl g_491)), (ft, .inl ((cs 0), 81, .inl g_497))] := hD
      refine w_cut (σ := (Int32)) (fun (v_503 : Int32) H locs ls => Rg 0 128 v_503 ∧ va_P D vwCl [(hf, .inr (1, [.ref fp, .ref ft, .int fb, .int fh, .int fm, .int fd])), (fp, .inl ((cs 0), 8, .inl g_491)), (ft, .inl ((cs 0), 81, .inl g_497))] H ∧ va_D A [(hf, .inr (1, [.ref fp, .ref ft, .int fb, .int fh, .int fm, .int fd])), (fp, .inl ((cs 0), 8, .inl g_491)), (ft, .inl ((cs 0), 81, .inl g_497))] ∧ va_S A s.heap H locs ∧ lv_has ls 4 [(3, .int x_488), (2, .int v_44), (1, .int v_45), (0, .ref hf)]) 54 (fun (v_503 : Int32) => [.int v_503, .int v_45]) ?_ (fun hj_504 => ?_)
      · rintro v_503 H locs ls ⟨r_505, hP, hD, hS, hl⟩
        refine lv_ior hx hb dX1_inAll_54 ?_
        refine lv_topi (fun x_506 e_507 => ?_)
        refine lv_istore_n (lv' := [(1, .int x_506), (3, .int x_488), (2, .int v_44), (0, .ref hf)]) hx hb dX1_inAll_55 rfl hl (by decide) rfl (fun ls hl => ?_)
        refine lv_aload_n hx hb dX1_inAll_56 rfl (lv_at hl 3 rfl) ?_
        refine va_get (D := D) (ci := 1) (v := .ref fp) (C := "WrongHole$Folds") (T := TX1) (N := 6) hx hb hts (iq_RX1 _) hown hK hP 0 rfl rfl 0 (by decide) (hT _ qq_1_183) (fun _ h9 => h9) rfl dX1_inAll_57 ?_
        refine lv_iload_n hx hb dX1_inAll_60 rfl (lv_at hl 2 rfl) ?_
        refine lv_iload_n hx hb dX1_inAll_61 rfl (lv_at hl 1 rfl) ?_
        have hi_508 : vp_in v_44 8 := Rg.in r_461 (by decide)
        refine va_iast hx hb hK hP hD hS 1 0 rfl rfl hi_508 dX1_inAll_62 (fun H locs hP hD hS => ?_)
        obtain ⟨g_509, hP, hD⟩ : ∃ g_509 : Nat → Int32, va_P D vwCl [(hf, .inr (1, [.ref fp, .ref ft, .int fb, .int fh, .int fm, .int fd])), (fp, .inl ((cs 0), 8, .inl g_509)), (ft, .inl ((cs 0), 81, .inl g_497))] H ∧ va_D A [(hf, .inr (1, [.ref fp, .ref ft, .int fb, .int fh, .int fm, .int fd])), (fp, .inl ((cs 0), 8, .inl g_509)), (ft, .inl ((cs 0), 81, .inl g_497))] := ⟨_, hP, hD⟩
        obtain ⟨x_510, e_511⟩ : ∃ z : Int32, z = v_44 + Int32.ofInt 1 := ⟨_, rfl⟩
        have r_512 : Rg 1 8 x_510 := Rg.add e_511 r_461 (Rg.c (c := Int32.ofInt 1) (k := 1) rfl) (by decide)
        refine lv_iinc (v := x_510) (lv' := [(2, .int x_510), (1, .int x_506), (3, .int x_488), (0, .ref hf)]) hx hb dX1_inAll_63 hl (k := 2) rfl (e_511.symm) (by decide) rfl (fun ls hl => ?_)
        refine lv_goto (tgt := 13) hx hb dX1_inAll_66 (by decide) ?_
        exact ih_458 (x_510, x_506, g_509, g_497) _ _ _ ⟨(Rg.wk (lo2 := 0) (hi2 := 8) r_512 (by decide)), hP, hD, hS, lv_sub hl [0, 1, 3] rfl⟩ (ms_up e_511 r_461 (Rg.c (c := Int32.ofInt 1) (k := 1) rfl) (by decide))
      · refine lv_if_ne (tgt := 53) hx hb dX1_inAll_44 (by decide) (fun c_498 => ?_) (fun c_498 => ?_)
        · refine lv_iconst (v := 0) hx hb dX1_inAll_53 (by decide) ?_
          exact hj_504 0 _ _ _ ⟨(Rg.wk (lo2 := 0) (hi2 := 128) (Rg.c (c := 0) (k := 0) rfl) (by decide)), hP, hD, hS, lv_sub hl [0, 1, 2, 3] rfl⟩
        · have r_499 : Rg 0 0 x_496 := Rg.eq_l c_498 (Rg.top x_496) (Rg.c (c := 0) (k := 0) rfl) (by decide)
          refine lv_iconst (v := 1) hx hb dX1_inAll_47 (by decide) ?_
          refine lv_iload_n hx hb dX1_inAll_48 rfl (lv_at hl 1 rfl) ?_
          refine lv_ishl hx hb dX1_inAll_49 ?_
          refine lv_topi (fun x_513 e_514 => ?_)
          have r_515 : Rg 0 128 x_513 := Rg.shl (ha := 1) (k := 7) e_514 (Rg.wk (Rg.c (c := 1) (k := 1) rfl) (by decide)) (Rg.wk r_461 (by decide)) (by decide) (by decide)
          refine lv_goto (tgt := 54) hx hb dX1_inAll_50 (by decide) ?_
          exact hj_504 x_513 _ _ _ ⟨r_515, hP, hD, hS, lv_sub hl [0, 1, 2, 3] rfl⟩
  · have r_8 : Rg 0 0 x_5 := Rg.eq_l c_7 (Rg.top x_5) (Rg.c (c := 0) (k := 0) rfl) (by decide)
    refine lv_iload_n hx hb dX1_inAll_9 rfl (lv_at hl 0 rfl) ?_
    refine W.widen (k := 0) (n := 0) (Nat.le_of_ble_eq_true rfl) (Nat.le_of_ble_eq_true rfl) ?_
    have hP9 := hP.sub (ws' := [(hf, .inr (1, [.ref fp, .ref ft, .int fb, .int fh, .int fm, .int fd])), (fp, .inl ((cs 0), 8, .inl fpo)), (ft, .inl ((cs 0), 81, .inl g_6))]) [0, 1, 2] rfl
    have hD9 := hD.sub (ws' := [(hf, .inr (1, [.ref fp, .ref ft, .int fb, .int fh, .int fm, .int fd])), (fp, .inl ((cs 0), 8, .inl fpo)), (ft, .inl ((cs 0), 81, .inl g_6))]) [0, 1, 2] (by decide) rfl
    exact W.iret (v := 0) hx hb hr (fun t9 ht9 hW9 => ⟨⟨_, (), rfl, trivial, ⟨fpo, g_6, by rw [ht9]; exact hP9, hD9⟩⟩, hS.F ht9⟩) hS.2.2 dX1_inAll_10
theorem dX1_inNone_0 : decode cX1_inNone 0 = .ok (.iconst 0, 1) := by decide +kernel
theorem dX1_inNone_1 : decode cX1_inNone 1 = .ok (.istore_n 1, 1) := by decide +kernel
theorem dX1_inNone_2 : decode cX1_inNone 2 = .ok (.aload_n 0, 1) := by decide +kernel
theorem dX1_inNone_3 : decode cX1_inNone 3 = .ok (.invokevirtual 50, 3) := by decide +kernel
theorem dX1_inNone_6 : decode cX1_inNone 6 = .ok (.ifCond .ne 5, 3) := by decide +kernel
theorem dX1_inNone_11 : decode cX1_inNone 11 = .ok (.iconst 0, 1) := by decide +kernel
theorem dX1_inNone_12 : decode cX1_inNone 12 = .ok (.istore_n 2, 1) := by decide +kernel
theorem dX1_inNone_13 : decode cX1_inNone 13 = .ok (.iload_n 2, 1) := by decide +kernel
theorem dX1_inNone_14 : decode cX1_inNone 14 = .ok (.aload_n 0, 1) := by decide +kernel
theorem dX1_inNone_15 : decode cX1_inNone 15 = .ok (.getfield 29, 3) := by decide +kernel
theorem dX1_inNone_18 : decode cX1_inNone 18 = .ok (.if_icmp .ge 34, 3) := by decide +kernel
theorem dX1_inNone_52 : decode cX1_inNone 52 = .ok (.iload_n 1, 1) := by decide +kernel
theorem dX1_inNone_53 : decode cX1_inNone 53 = .ok (.ireturn, 1) := by decide +kernel
theorem dX1_inNone_21 : decode cX1_inNone 21 = .ok (.iload_n 1, 1) := by decide +kernel
theorem dX1_inNone_22 : decode cX1_inNone 22 = .ok (.aload_n 0, 1) := by decide +kernel
theorem dX1_inNone_23 : decode cX1_inNone 23 = .ok (.aload_n 0, 1) := by decide +kernel
theorem dX1_inNone_24 : decode cX1_inNone 24 = .ok (.getfield 34, 3) := by decide +kernel
theorem dX1_inNone_27 : decode cX1_inNone 27 = .ok (.iconst 1, 1) := by decide +kernel
theorem dX1_inNone_28 : decode cX1_inNone 28 = .ok (.iload_n 2, 1) := by decide +kernel
theorem dX1_inNone_29 : decode cX1_inNone 29 = .ok (.ishl, 1) := by decide +kernel
theorem dX1_inNone_30 : decode cX1_inNone 30 = .ok (.ior, 1) := by decide +kernel
theorem dX1_inNone_31 : decode cX1_inNone 31 = .ok (.invokevirtual 46, 3) := by decide +kernel
theorem dX1_inNone_34 : decode cX1_inNone 34 = .ok (.ifCond .ne 9, 3) := by decide +kernel
theorem dX1_inNone_44 : decode cX1_inNone 44 = .ok (.ior, 1) := by decide +kernel
theorem dX1_inNone_45 : decode cX1_inNone 45 = .ok (.istore_n 1, 1) := by decide +kernel
theorem dX1_inNone_46 : decode cX1_inNone 46 = .ok (.iinc 2 1, 3) := by decide +kernel
theorem dX1_inNone_49 : decode cX1_inNone 49 = .ok (.goto (-36), 3) := by decide +kernel
theorem dX1_inNone_43 : decode cX1_inNone 43 = .ok (.iconst 0, 1) := by decide +kernel
theorem dX1_inNone_37 : decode cX1_inNone 37 = .ok (.iconst 1, 1) := by decide +kernel
theorem dX1_inNone_38 : decode cX1_inNone 38 = .ok (.iload_n 2, 1) := by decide +kernel
theorem dX1_inNone_39 : decode cX1_inNone 39 = .ok (.ishl, 1) := by decide +kernel
theorem dX1_inNone_40 : decode cX1_inNone 40 = .ok (.goto 4, 3) := by decide +kernel
theorem dX1_inNone_9 : decode cX1_inNone 9 = .ok (.iload_n 1, 1) := by decide +kernel
theorem dX1_inNone_10 : decode cX1_inNone 10 = .ok (.ireturn, 1) := by decide +kernel
set_option maxHeartbeats 4000000 in
set_option maxRecDepth 100000 in
theorem c_Folds_inNone (l : Launch) (D : va_G) (cs : Nat → ClassId) (X : XX) (sz : Nat) (hf : Nat) (fp : Nat) (ft : Nat) (fb : Int32) (fh : Int32) (fm : Int32) (fd : Int32) (fpo : Nat → Int32) (fta : Nat → Int32) (r_fb : Rg 0 8 fb) (r_fh : Rg 0 8 fh) : Met l yX1_inNone (Cond.code yX1_inNone cX1_inNone 3 (some .int) :: TB) (RM 3 0 0) (va_Pc [.ref hf] (PRE D cs X [(hf, .inr (1, [.ref fp, .ref ft, .int fb, .int fh, .int fm, .int fd])), (fp, .inl ((cs 0), 8, .inl fpo)), (ft, .inl ((cs 0), 81, .inl fta))] [] sz)) (va_Qi (S := Unit) (fun r _ => True) (fun _ t => ∃ (fta2 : Nat → Int32), va_P D vwCl [(hf, .inr (1, [.ref fp, .ref ft, .int fb, .int fh, .int fm, .int fd])), (fp, .inl ((cs 0), 8, .inl fpo)), (ft, .inl ((cs 0), 81, .inl fta2))] t.heap ∧ va_D (va_A [(hf, .inr (1, [.ref fp, .ref ft, .int fb, .int fh, .int fm, .int fd])), (fp, .inl ((cs 0), 8, .inl fpo)), (ft, .inl ((cs 0), 81, .inl fta))] sz) [(hf, .inr (1, [.ref fp, .ref ft, .int fb, .int fh, .int fm, .int fd])), (fp, .inl ((cs 0), 8, .inl fpo)), (ft, .inl ((cs 0), 81, .inl fta2))]) (va_A [(hf, .inr (1, [.ref fp, .ref ft, .int fb, .int fh, .int fm, .int fd])), (fp, .inl ((cs 0), 8, .inl fpo)), (ft, .inl ((cs 0), 81, .inl fta))] sz)) 0 0 (va_A [(hf, .inr (1, [.ref fp, .ref ft, .int fb, .int fh, .int fm, .int fd])), (fp, .inl ((cs 0), 8, .inl fpo)), (ft, .inl ((cs 0), 81, .inl fta))] sz) := by
  refine MET (y := yX1_inNone) (cc := cX1_inNone) (maxL := 3) (ret := (some .int)) (d := 3) (mc := 0) (ms := 0) (D := D) (cs := cs) (X := X) (ws := [(hf, .inr (1, [.ref fp, .ref ft, .int fb, .int fh, .int fm, .int fd])), (fp, .inl ((cs 0), 8, .inl fpo)), (ft, .inl ((cs 0), 81, .inl fta))]) (wo := []) (sz := sz) (av := [.ref hf]) (Qc := fun A => va_Qi (S := Unit) (fun r _ => True) (fun _ t => ∃ (fta2 : Nat → Int32), va_P D vwCl [(hf, .inr (1, [.ref fp, .ref ft, .int fb, .int fh, .int fm, .int fd])), (fp, .inl ((cs 0), 8, .inl fpo)), (ft, .inl ((cs 0), 81, .inl fta2))] t.heap ∧ va_D A [(hf, .inr (1, [.ref fp, .ref ft, .int fb, .int fh, .int fm, .int fd])), (fp, .inl ((cs 0), 8, .inl fpo)), (ft, .inl ((cs 0), 81, .inl fta2))]) A) (by decide) (Nat.le_of_ble_eq_true rfl) ?_
  intro p e s m below meth c ls A H hHe hx hb hr hml hown hts hlocks hnm hP hK hD hA hS hN hR hX hXs hl
  have hD : va_D A [(hf, .inr (1, [.ref fp, .ref ft, .int fb, .int fh, .int fm, .int fd])), (fp, .inl ((cs 0), 8, .inl fpo)), (ft, .inl ((cs 0), 81, .inl fta))] := hD
  obtain ⟨locs, hlc⟩ : ∃ z : List Loc, z = [] := ⟨_, rfl⟩
  rw [← hlc] at hS ⊢
  have hown : s.vm.findClass "WrongHole$Folds" = some m.cls := hown
  have hT : ∀ w ∈ TB, w.before ([.ref hf] : List Value).toArray s = true := fun w h => hts w (List.mem_cons_of_mem _ h)
  have hl : lv_has ls 3 [(0, .ref hf)] := hl
  have hP : va_P D vwCl [(hf, .inr (1, [.ref fp, .ref ft, .int fb, .int fh, .int fm, .int fd])), (fp, .inl ((cs 0), 8, .inl fpo)), (ft, .inl ((cs 0), 81, .inl fta))] H := hP
  refine lv_iconst (v := 0) hx hb dX1_inNone_0 (by decide) ?_
  refine lv_istore_n (lv' := [(1, .int 0), (0, .ref hf)]) hx hb dX1_inNone_1 rfl hl (by decide) rfl (fun ls hl => ?_)
  refine lv_aload_n hx hb dX1_inNone_2 rfl (lv_at hl 1 rfl) ?_
  have hPc := hP.sub (ws' := [(hf, .inr (1, [.ref fp, .ref ft, .int fb, .int fh, .int fm, .int fd])), (fp, .inl ((cs 0), 8, .inl fpo)), (ft, .inl ((cs 0), 81, .inl fta))]) [0, 1, 2] rfl
  have hDc := hD.sub (ws' := [(hf, .inr (1, [.ref fp, .ref ft, .int fb, .int fh, .int fm, .int fd])), (fp, .inl ((cs 0), 8, .inl fpo)), (ft, .inl ((cs 0), 81, .inl fta))]) [0, 1, 2] (by decide) rfl
  have hFc := va_free (wc := [(hf, .inr (1, [.ref fp, .ref ft, .int fb, .int fh, .int fm, .int fd])), (fp, .inl ((cs 0), 8, .inl fpo)), (ft, .inl ((cs 0), 81, .inl fta))]) hD hS hA [0, 1, 2] rfl
  refine va_calli (va_runV (As := []) (rest := []) ⟨hx, hb, hml, hown, hts⟩ (c_Folds_howMany l D cs X H.size hf fp ft fb fh fm fd fpo fta r_fb r_fh) ⟨callB_of 0 hts (gd_C qq_5_81) rfl rfl rfl (hT _ qq_1_8) (hT _ qq_5_94) (by decide +kernel) (rm_R rfl rfl), (hT _ qq_5_79), (hT _ qq_5_80)⟩ (pr_V hPc hK hDc hN (hR.sub (wo' := []) [] rfl) hS hFc hX hXs (ci := 1) (q0 := 0) rfl rfl) rfl rfl hl.1 rfl (lv_room (Nat.le_of_ble_eq_true rfl)) dX1_inNone_3 ⟨Nat.le_of_ble_eq_true rfl, Nat.le_of_ble_eq_true rfl⟩) hS (fun q _ h => hFc q h) hFc (fun x_5 u_1 t_4 H1 locs ht9 hvm hw_2 hB_3 hz1 hk1 hS => ?_)
  obtain ⟨g_6, hP1, hD1⟩ := hB_3
  rw [ht9] at hP1
  obtain ⟨hP, hD⟩ := va_join (wr := []) (w1 := [(hf, .inr (1, [.ref fp, .ref ft, .int fb, .int fh, .int fm, .int fd])), (fp, .inl ((cs 0), 8, .inl fpo)), (ft, .inl ((cs 0), 81, .inl g_6))]) hP hD [0, 1, 2] [] rfl rfl (by decide) (by decide) hk1 hFc hP1 hD1
  generalize H1 = H at hP hS ⊢
  have hP : va_P D vwCl [(hf, .inr (1, [.ref fp, .ref ft, .int fb, .int fh, .int fm, .int fd])), (fp, .inl ((cs 0), 8, .inl fpo)), (ft, .inl ((cs 0), 81, .inl g_6))] H := hP
  have hD : va_D A [(hf, .inr (1, [.ref fp, .ref ft, .int fb, .int fh, .int fm, .int fd])), (fp, .inl ((cs 0), 8, .inl fpo)), (ft, .inl ((cs 0), 81, .inl g_6))] := hD
  refine lv_if_ne (tgt := 11) hx hb dX1_inNone_6 (by decide) (fun c_7 => ?_) (fun c_7 => ?_)
  · refine lv_iconst (v := 0) hx hb dX1_inNone_11 (by decide) ?_
    refine lv_istore_n (lv' := [(2, .int 0), (1, .int 0), (0, .ref hf)]) hx hb dX1_inNone_12 rfl hl (by decide) rfl (fun ls hl => ?_)
    refine w_wh (σ := (Int32) × (Int32) × (Nat → Int32)) (fun x9 H locs ls => match x9 with | (v_40, v_41, g_42) => Rg 0 8 v_40 ∧ va_P D vwCl [(hf, .inr (1, [.ref fp, .ref ft, .int fb, .int fh, .int fm, .int fd])), (fp, .inl ((cs 0), 8, .inl fpo)), (ft, .inl ((cs 0), 81, .inl g_42))] H ∧ va_D A [(hf, .inr (1, [.ref fp, .ref ft, .int fb, .int fh, .int fm, .int fd])), (fp, .inl ((cs 0), 8, .inl fpo)), (ft, .inl ((cs 0), 81, .inl g_42))] ∧ va_S A s.heap H locs ∧ lv_has ls 3 [(2, .int v_40), (1, .int v_41), (0, .ref hf)]) (fun x9 => match x9 with | (v_40, v_41, g_42) => (8 - Int32.toInt v_40).toNat) 13 ?_ (0, 0, g_6) H locs ls ⟨(Rg.wk (lo2 := 0) (hi2 := 8) (Rg.c (c := 0) (k := 0) rfl) (by decide)), hP, hD, hS, lv_sub hl [0, 1, 2] rfl⟩
    rintro ⟨v_40, v_41, g_42⟩ H locs ls ⟨r_470, hP, hD, hS, hl⟩ ih_469
    refine lv_iload_n hx hb dX1_inNone_13 rfl (lv_at hl 0 rfl) ?_
    refine lv_aload_n hx hb dX1_inNone_14 rfl (lv_at hl 2 rfl) ?_
    refine va_get (D := D) (ci := 1) (v := .int fb) (C := "WrongHole$Folds") (T := TX1) (N := 6) hx hb hts (iq_RX1 _) hown hK hP 0 rfl rfl 2 (by decide) (hT _ qq_1_185) (fun _ h9 => h9) rfl dX1_inNone_15 ?_
    refine lv_icmp_ge (tgt := 52) hx hb dX1_inNone_18 (by decide) (fun c_471 => ?_) (fun c_471 => ?_)
    · refine lv_iload_n hx hb dX1_inNone_52 rfl (lv_at hl 1 rfl) ?_
      refine W.widen (k := 0) (n := 0) (Nat.le_of_ble_eq_true rfl) (Nat.le_of_ble_eq_true rfl) ?_
      have hP9 := hP.sub (ws' := [(hf, .inr (1, [.ref fp, .ref ft, .int fb, .int fh, .int fm, .int fd])), (fp, .inl ((cs 0), 8, .inl fpo)), (ft, .inl ((cs 0), 81, .inl g_42))]) [0, 1, 2] rfl
      have hD9 := hD.sub (ws' := [(hf, .inr (1, [.ref fp, .ref ft, .int fb, .int fh, .int fm, .int fd])), (fp, .inl ((cs 0), 8, .inl fpo)), (ft, .inl ((cs 0), 81, .inl g_42))]) [0, 1, 2] (by decide) rfl
      exact W.iret (v := v_41) hx hb hr (fun t9 ht9 hW9 => ⟨⟨_, (), rfl, trivial, ⟨g_42, by rw [ht9]; exact hP9, hD9⟩⟩, hS.F ht9⟩) hS.2.2 dX1_inNone_53
    · have r_472 : Rg 0 7 v_40 := Rg.lt_l (nle_lt c_471) r_470 r_fb (by decide)
      have r_473 : Rg 1 8 fb := Rg.lt_r (nle_lt c_471) r_470 r_fb (by decide)
      refine lv_iload_n hx hb dX1_inNone_21 rfl (lv_at hl 1 rfl) ?_
      refine lv_aload_n hx hb dX1_inNone_22 rfl (lv_at hl 2 rfl) ?_
      refine lv_aload_n hx hb dX1_inNone_23 rfl (lv_at hl 2 rfl) ?_
      refine va_get (D := D) (ci := 1) (v := .int fm) (C := "WrongHole$Folds") (T := TX1) (N := 6) hx hb hts (iq_RX1 _) hown hK hP 0 rfl rfl 4 (by decide) (hT _ qq_1_187) (fun _ h9 => h9) rfl dX1_inNone_24 ?_
      refine lv_iconst (v := 1) hx hb dX1_inNone_27 (by decide) ?_
      refine lv_iload_n hx hb dX1_inNone_28 rfl (lv_at hl 0 rfl) ?_
      refine lv_ishl hx hb dX1_inNone_29 ?_
      refine lv_topi (fun x_499 e_500 => ?_)
      have r_501 : Rg 0 128 x_499 := Rg.shl (ha := 1) (k := 7) e_500 (Rg.wk (Rg.c (c := 1) (k := 1) rfl) (by decide)) (Rg.wk r_472 (by decide)) (by decide) (by decide)
      refine lv_ior hx hb dX1_inNone_30 ?_
      refine lv_topi (fun x_502 e_503 => ?_)
      have hPc := hP.sub (ws' := [(hf, .inr (1, [.ref fp, .ref ft, .int fb, .int fh, .int fm, .int fd])), (fp, .inl ((cs 0), 8, .inl fpo)), (ft, .inl ((cs 0), 81, .inl g_42))]) [0, 1, 2] rfl
      have hDc := hD.sub (ws' := [(hf, .inr (1, [.ref fp, .ref ft, .int fb, .int fh, .int fm, .int fd])), (fp, .inl ((cs 0), 8, .inl fpo)), (ft, .inl ((cs 0), 81, .inl g_42))]) [0, 1, 2] (by decide) rfl
      have hFc := va_free (wc := [(hf, .inr (1, [.ref fp, .ref ft, .int fb, .int fh, .int fm, .int fd])), (fp, .inl ((cs 0), 8, .inl fpo)), (ft, .inl ((cs 0), 81, .inl g_42))]) hD hS hA [0, 1, 2] rfl
      refine va_calli (va_runV (As := [.int x_502]) (rest := [.int v_41]) ⟨hx, hb, hml, hown, hts⟩ (c_Folds_tally l D cs X H.size hf fp ft fb fh fm fd fpo g_42 x_502 (Rg.wk (lo2 := 0) (hi2 := 8) r_473 (by decide)) r_fh) ⟨callB_of 1 hts (gd_C qq_5_85) rfl rfl rfl (hT _ qq_1_8) (hT _ qq_5_82) (by decide +kernel) (rm_R rfl rfl), (hT _ qq_5_84), (hT _ qs_1_11)⟩ (pr_V hPc hK hDc hN (hR.sub (wo' := []) [] rfl) hS hFc hX hXs (ci := 1) (q0 := 0) rfl rfl) rfl rfl hl.1 rfl (lv_room (Nat.le_of_ble_eq_true rfl)) dX1_inNone_31 ⟨Nat.le_of_ble_eq_true rfl, Nat.le_of_ble_eq_true rfl⟩) hS (fun q _ h => hFc q h) hFc (fun x_508 u_504 t_507 H1 locs ht9 hvm hw_505 hB_506 hz1 hk1 hS => ?_)
      obtain ⟨g_509, hP1, hD1⟩ := hB_506
      rw [ht9] at hP1
      obtain ⟨hP, hD⟩ := va_join (wr := []) (w1 := [(hf, .inr (1, [.ref fp, .ref ft, .int fb, .int fh, .int fm, .int fd])), (fp, .inl ((cs 0), 8, .inl fpo)), (ft, .inl ((cs 0), 81, .inl g_509))]) hP hD [0, 1, 2] [] rfl rfl (by decide) (by decide) hk1 hFc hP1 hD1
      generalize H1 = H at hP hS ⊢
      have hP : va_P D vwCl [(hf, .inr (1, [.ref fp, .ref ft, .int fb, .int fh, .int fm, .int fd])), (fp, .inl ((cs 0), 8, .inl fpo)), (ft, .inl ((cs 0), 81, .inl g_509))] H := hP
      have hD : va_D A [(hf, .inr (1, [.ref fp, .ref ft, .int fb, .int fh, .int fm, .int fd])), (fp, .inl ((cs 0), 8, .inl fpo)), (ft, .inl ((cs 0), 81, .inl g_509))] := hD
      refine w_cut (σ := (Int32)) (fun (v_515 : Int32) H locs ls => Rg 0 128 v_515 ∧ va_P D vwCl [(hf, .inr (1, [.ref fp, .ref ft, .int fb, .int fh, .int fm, .int fd])), (fp, .inl ((cs 0), 8, .inl fpo)), (ft, .inl ((cs 0), 81, .inl g_509))] H ∧ va_D A [(hf, .inr (1, [.ref fp, .ref ft, .int fb, .int fh, .int fm, .int fd])), (fp, .inl ((cs 0), 8, .inl fpo)), (ft, .inl ((cs 0), 81, .inl g_509))] ∧ va_S A s.heap H locs ∧ lv_has ls 3 [(2, .int v_40), (1, .int v_41), (0, .ref hf)]) 44 (fun (v_515 : Int32) => [.int v_515, .int v_41]) ?_ (fun hj_516 => ?_)
      · rintro v_515 H locs ls ⟨r_517, hP, hD, hS, hl⟩
        refine lv_ior hx hb dX1_inNone_44 ?_
        refine lv_topi (fun x_518 e_519 => ?_)
        refine lv_istore_n (lv' := [(1, .int x_518), (2, .int v_40), (0, .ref hf)]) hx hb dX1_inNone_45 rfl hl (by decide) rfl (fun ls hl => ?_)
        obtain ⟨x_520, e_521⟩ : ∃ z : Int32, z = v_40 + Int32.ofInt 1 := ⟨_, rfl⟩
        have r_522 : Rg 1 8 x_520 := Rg.add e_521 r_472 (Rg.c (c := Int32.ofInt 1) (k := 1) rfl) (by decide)
        refine lv_iinc (v := x_520) (lv' := [(2, .int x_520), (1, .int x_518), (0, .ref hf)]) hx hb dX1_inNone_46 hl (k := 1) rfl (e_521.symm) (by decide) rfl (fun ls hl => ?_)
        refine lv_goto (tgt := 13) hx hb dX1_inNone_49 (by decide) ?_
        exact ih_469 (x_520, x_518, g_509) _ _ _ ⟨(Rg.wk (lo2 := 0) (hi2 := 8) r_522 (by decide)), hP, hD, hS, lv_sub hl [0, 1, 2] rfl⟩ (ms_up e_521 r_472 (Rg.c (c := Int32.ofInt 1) (k := 1) rfl) (by decide))
      · refine lv_if_ne (tgt := 43) hx hb dX1_inNone_34 (by decide) (fun c_510 => ?_) (fun c_510 => ?_)
        · refine lv_iconst (v := 0) hx hb dX1_inNone_43 (by decide) ?_
          exact hj_516 0 _ _ _ ⟨(Rg.wk (lo2 := 0) (hi2 := 128) (Rg.c (c := 0) (k := 0) rfl) (by decide)), hP, hD, hS, lv_sub hl [0, 1, 2] rfl⟩
        · have r_511 : Rg 0 0 x_508 := Rg.eq_l c_510 (Rg.top x_508) (Rg.c (c := 0) (k := 0) rfl) (by decide)
          refine lv_iconst (v := 1) hx hb dX1_inNone_37 (by decide) ?_
          refine lv_iload_n hx hb dX1_inNone_38 rfl (lv_at hl 0 rfl) ?_
          refine lv_ishl hx hb dX1_inNone_39 ?_
          refine lv_topi (fun x_523 e_524 => ?_)
          have r_525 : Rg 0 128 x_523 := Rg.shl (ha := 1) (k := 7) e_524 (Rg.wk (Rg.c (c := 1) (k := 1) rfl) (by decide)) (Rg.wk r_472 (by decide)) (by decide) (by decide)
          refine lv_goto (tgt := 44) hx hb dX1_inNone_40 (by decide) ?_
          exact hj_516 x_523 _ _ _ ⟨r_525, hP, hD, hS, lv_sub hl [0, 1, 2] rfl⟩
  · have r_8 : Rg 0 0 x_5 := Rg.eq_l c_7 (Rg.top x_5) (Rg.c (c := 0) (k := 0) rfl) (by decide)
    refine lv_iload_n hx hb dX1_inNone_9 rfl (lv_at hl 0 rfl) ?_
    refine W.widen (k := 0) (n := 0) (Nat.le_of_ble_eq_true rfl) (Nat.le_of_ble_eq_true rfl) ?_
    have hP9 := hP.sub (ws' := [(hf, .inr (1, [.ref fp, .ref ft, .int fb, .int fh, .int fm, .int fd])), (fp, .inl ((cs 0), 8, .inl fpo)), (ft, .inl ((cs 0), 81, .inl g_6))]) [0, 1, 2] rfl
    have hD9 := hD.sub (ws' := [(hf, .inr (1, [.ref fp, .ref ft, .int fb, .int fh, .int fm, .int fd])), (fp, .inl ((cs 0), 8, .inl fpo)), (ft, .inl ((cs 0), 81, .inl g_6))]) [0, 1, 2] (by decide) rfl
    exact W.iret (v := 0) hx hb hr (fun t9 ht9 hW9 => ⟨⟨_, (), rfl, trivial, ⟨g_6, by rw [ht9]; exact hP9, hD9⟩⟩, hS.F ht9⟩) hS.2.2 dX1_inNone_10
