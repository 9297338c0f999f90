set_option maxHeartbeats 4000000 in
set_option maxRecDepth 100000 in
theorem c_Folds_canBeTold_x (l : Launch) (D : va_G) (cs : Nat → ClassId) (hl0 : Nat) (lb : Int32) (lh : Int32) (lg : Int32) (lw : Int32) (lv : Int32) (lbs : Int32) (lti : Int32) (lts : Int32) (le : Int32) (lk : Int32) (la : Int32) (l0 : Nat) (l1 : Nat) (l2 : Nat) (l3 : Nat) (l4 : Nat) (l5 : Nat) (l6 : Nat) (l7 : Nat) (x : Int32) (b : Int32) (h : Int32) (r_lb : Rg 0 8 lb) (r_lh : Rg 0 8 lh) (r_le : Rg 0 6 le) : Met l yX1_canBeTold (Cond.code yX1_canBeTold cX1_canBeTold 4 (some .boolean) :: TB) (RM 1 0 0) (va_Pc [.ref hl0, .int x, .int b, .int h] (PRR D cs [(hl0, .inr (2, [.int lb, .int lh, .int lg, .int lw, .int lv, .int lbs, .int lti, .int lts, .int le, .int lk, .int la, .ref l0, .ref l1, .ref l2, .ref l3, .ref l4, .ref l5, .ref l6, .ref l7]))])) (QP (fun v => ∃ x : Int32, v = .int x ∧ Rg 0 1 x ∧ (¬ x = 0 → 0 ≤ Int32.toInt b ∧ Int32.toInt b < Int32.toInt lb))) 0 0 (fun _ => False) := by
  refine MER (y := yX1_canBeTold) (cc := cX1_canBeTold) (maxL := 4) (ret := (some .boolean)) (d := 1) (D := D) (cs := cs) (ws := [(hl0, .inr (2, [.int lb, .int lh, .int lg, .int lw, .int lv, .int lbs, .int lti, .int lts, .int le, .int lk, .int la, .ref l0, .ref l1, .ref l2, .ref l3, .ref l4, .ref l5, .ref l6, .ref l7]))]) (av := [.ref hl0, .int x, .int b, .int h]) (Qc := QP (fun v => ∃ x : Int32, v = .int x ∧ Rg 0 1 x ∧ (¬ x = 0 → 0 ≤ Int32.toInt b ∧ Int32.toInt b < Int32.toInt lb))) (by decide) (Nat.le_of_ble_eq_true rfl) ?_
  intro p e s m below meth c ls H hHe hx hb hr hml hown hts hlocks hP hK hN hl
  obtain ⟨locs, hlc⟩ : ∃ z : List Loc, z = [] := ⟨_, rfl⟩
  rw [← hlc]
  have hown : s.vm.findClass "WrongHole$Folds" = some m.cls := hown
  have hT : ∀ w ∈ TB, w.before ([.ref hl0, .int x, .int b, .int h] : List Value).toArray s = true := fun w h => hts w (List.mem_cons_of_mem _ h)
  have hl : lv_has ls 4 [(0, .ref hl0), (1, .int x), (2, .int b), (3, .int h)] := hl
  have hP : va_P D vwCl [(hl0, .inr (2, [.int lb, .int lh, .int lg, .int lw, .int lv, .int lbs, .int lti, .int lts, .int le, .int lk, .int la, .ref l0, .ref l1, .ref l2, .ref l3, .ref l4, .ref l5, .ref l6, .ref l7]))] H := hP
  refine lv_iload_n hx hb dX1_canBeTold_0 rfl (lv_at hl 1 rfl) ?_
  refine lv_if_lt (tgt := 25) hx hb dX1_canBeTold_1 (by decide) (fun c_1 => ?_) (fun c_1 => ?_)
  · have r_2 : Rg (-2147483648) (-1) x := Rg.lt_l c_1 (Rg.top x) (Rg.c (c := 0) (k := 0) rfl) (by decide)
    refine lv_iconst (v := 0) hx hb dX1_canBeTold_25 (by decide) ?_
    exact W.zret (v := 0) (ty := .boolean) hx hb hr rfl (fun t9 ht9 hW9 => ⟨⟨_, rfl, _, rfl, ⟨by decide, by decide⟩, hb_0 rfl⟩, ht9.trans hHe⟩) (fun _ h9 => by rw [hlc] at h9; exact absurd h9 List.not_mem_nil) dX1_canBeTold_26
  · have r_3 : Rg 0 2147483647 x := Rg.le_r (nlt_le c_1) (Rg.c (c := 0) (k := 0) rfl) (Rg.top x) (by decide)
    refine lv_iload_n hx hb dX1_canBeTold_4 rfl (lv_at hl 1 rfl) ?_
    refine lv_iconst (v := 5) hx hb dX1_canBeTold_5 (by decide) ?_
    refine lv_icmp_gt (tgt := 25) hx hb dX1_canBeTold_6 (by decide) (fun c_4 => ?_) (fun c_4 => ?_)
    · have r_5 : Rg 6 2147483647 x := Rg.lt_r c_4 (Rg.c (c := 5) (k := 5) rfl) r_3 (by decide)
      refine lv_iconst (v := 0) hx hb dX1_canBeTold_25 (by decide) ?_
      exact W.zret (v := 0) (ty := .boolean) hx hb hr rfl (fun t9 ht9 hW9 => ⟨⟨_, rfl, _, rfl, ⟨by decide, by decide⟩, hb_0 rfl⟩, ht9.trans hHe⟩) (fun _ h9 => by rw [hlc] at h9; exact absurd h9 List.not_mem_nil) dX1_canBeTold_26
    · have r_6 : Rg 0 5 x := Rg.le_l (nlt_le c_4) r_3 (Rg.c (c := 5) (k := 5) rfl) (by decide)
      refine lv_aload_n hx hb dX1_canBeTold_9 rfl (lv_at hl 0 rfl) ?_
      refine lv_iload_n hx hb dX1_canBeTold_10 rfl (lv_at hl 2 rfl) ?_
      have hPc := va_P.sub (ws' := [(hl0, .inr (2, [.int lb, .int lh, .int lg, .int lw, .int lv, .int lbs, .int lti, .int lts, .int le, .int lk, .int la, .ref l0, .ref l1, .ref l2, .ref l3, .ref l4, .ref l5, .ref l6, .ref l7]))]) hP [0] rfl
      refine cl_P (W.runV (As := [.int b]) (rest := []) ⟨hx, hb, hml, hown, hts⟩ (c_Lift_hasButton l D cs hl0 lb lh lg lw lv lbs lti lts le lk la l0 l1 l2 l3 l4 l5 l6 l7 b) ⟨callB_of 1 hts (gd_C qq_3_164) rfl rfl rfl (hT _ qq_1_11) (hT _ qq_5_64) (by decide +kernel) (rm_R rfl rfl), (hT _ qq_3_162), (hT _ qq_3_163)⟩ (pq_V hPc hK hN (ci := 2) (q0 := 0) rfl rfl) rfl rfl hl.1 rfl (lv_room (Nat.le_of_ble_eq_true rfl)) dX1_canBeTold_11 ⟨Nat.le_of_ble_eq_true rfl, Nat.le_of_ble_eq_true rfl⟩) (fun v9 hz_8 => ?_)
      obtain ⟨x_7, rfl, r_9⟩ := hz_8
      refine lv_if_eq (tgt := 25) hx hb dX1_canBeTold_14 (by decide) (fun c_10 => ?_) (fun c_10 => ?_)
      · have r_11 : Rg 0 0 x_7 := Rg.eq_l c_10 r_9.1 (Rg.c (c := 0) (k := 0) rfl) (by decide)
        refine lv_iconst (v := 0) hx hb dX1_canBeTold_25 (by decide) ?_
        exact W.zret (v := 0) (ty := .boolean) hx hb hr rfl (fun t9 ht9 hW9 => ⟨⟨_, rfl, _, rfl, ⟨by decide, by decide⟩, hb_0 rfl⟩, ht9.trans hHe⟩) (fun _ h9 => by rw [hlc] at h9; exact absurd h9 List.not_mem_nil) dX1_canBeTold_26
      · have r_12 : Rg 1 1 x_7 := Rg.ne c_10 r_9.1 (Rg.c (c := 0) (k := 0) rfl) (by decide)
        have r_13 : Rg 0 7 b := hb_r (r_9.2 c_10) r_lb (by decide)
        refine lv_aload_n hx hb dX1_canBeTold_17 rfl (lv_at hl 0 rfl) ?_
        refine lv_iload_n hx hb dX1_canBeTold_18 rfl (lv_at hl 3 rfl) ?_
        have hPc := va_P.sub (ws' := [(hl0, .inr (2, [.int lb, .int lh, .int lg, .int lw, .int lv, .int lbs, .int lti, .int lts, .int le, .int lk, .int la, .ref l0, .ref l1, .ref l2, .ref l3, .ref l4, .ref l5, .ref l6, .ref l7]))]) hP [0] rfl
        refine cl_P (W.runV (As := [.int h]) (rest := []) ⟨hx, hb, hml, hown, hts⟩ (c_Lift_hasHole l D cs hl0 lb lh lg lw lv lbs lti lts le lk la l0 l1 l2 l3 l4 l5 l6 l7 h) ⟨callB_of 1 hts (gd_C qq_3_190) rfl rfl rfl (hT _ qq_1_11) (hT _ qq_5_65) (by decide +kernel) (rm_R rfl rfl), (hT _ qq_3_188), (hT _ qq_3_189)⟩ (pq_V hPc hK hN (ci := 2) (q0 := 0) rfl rfl) rfl rfl hl.1 rfl (lv_room (Nat.le_of_ble_eq_true rfl)) dX1_canBeTold_19 ⟨Nat.le_of_ble_eq_true rfl, Nat.le_of_ble_eq_true rfl⟩) (fun v9 hz_15 => ?_)
        obtain ⟨x_14, rfl, r_16⟩ := hz_15
        refine lv_if_ne (tgt := 27) hx hb dX1_canBeTold_22 (by decide) (fun c_17 => ?_) (fun c_17 => ?_)
        · have r_18 : Rg 1 1 x_14 := Rg.ne c_17 r_16.1 (Rg.c (c := 0) (k := 0) rfl) (by decide)
          have r_20 : Rg 0 7 h := hb_r (r_16.2 c_17) r_lh (by decide)
          refine lv_iload_n hx hb dX1_canBeTold_27 rfl (lv_at hl 1 rfl) ?_
          refine lv_iconst (v := 1) hx hb dX1_canBeTold_28 (by decide) ?_
          refine lv_icmp_gt (tgt := 42) hx hb dX1_canBeTold_29 (by decide) (fun c_21 => ?_) (fun c_21 => ?_)
          · have r_22 : Rg 2 5 x := Rg.lt_r c_21 (Rg.c (c := 1) (k := 1) rfl) r_6 (by decide)
            refine lv_iload_n hx hb dX1_canBeTold_42 rfl (lv_at hl 1 rfl) ?_
            refine lv_iconst (v := 3) hx hb dX1_canBeTold_43 (by decide) ?_
            refine lv_icmp_gt (tgt := 51) hx hb dX1_canBeTold_44 (by decide) (fun c_24 => ?_) (fun c_24 => ?_)
            · have r_25 : Rg 4 5 x := Rg.lt_r c_24 (Rg.c (c := 3) (k := 3) rfl) r_22 (by decide)
              refine lv_iconst (v := 1) hx hb dX1_canBeTold_51 (by decide) ?_
              refine lv_goto (tgt := 56) hx hb dX1_canBeTold_52 (by decide) ?_
              exact W.zret (v := 1) (ty := .boolean) hx hb hr rfl (fun t9 ht9 hW9 => ⟨⟨_, rfl, _, rfl, ⟨by decide, by decide⟩, fun _ => r_9.2 c_10⟩, ht9.trans hHe⟩) (fun _ h9 => by rw [hlc] at h9; exact absurd h9 List.not_mem_nil) dX1_canBeTold_56
            · have r_26 : Rg 2 3 x := Rg.le_l (nlt_le c_24) r_22 (Rg.c (c := 3) (k := 3) rfl) (by decide)
              refine lv_iload_n hx hb dX1_canBeTold_47 rfl (lv_at hl 2 rfl) ?_
              refine lv_if_ne (tgt := 55) hx hb dX1_canBeTold_48 (by decide) (fun c_30 => ?_) (fun c_30 => ?_)
              · have r_31 : Rg 1 7 b := Rg.ne c_30 r_13 (Rg.c (c := 0) (k := 0) rfl) (by decide)
                refine lv_iconst (v := 0) hx hb dX1_canBeTold_55 (by decide) ?_
                exact W.zret (v := 0) (ty := .boolean) hx hb hr rfl (fun t9 ht9 hW9 => ⟨⟨_, rfl, _, rfl, ⟨by decide, by decide⟩, hb_0 rfl⟩, ht9.trans hHe⟩) (fun _ h9 => by rw [hlc] at h9; exact absurd h9 List.not_mem_nil) dX1_canBeTold_56
              · have r_32 : Rg 0 0 b := Rg.eq_l c_30 r_13 (Rg.c (c := 0) (k := 0) rfl) (by decide)
                refine lv_iconst (v := 1) hx hb dX1_canBeTold_51 (by decide) ?_
                refine lv_goto (tgt := 56) hx hb dX1_canBeTold_52 (by decide) ?_
                exact W.zret (v := 1) (ty := .boolean) hx hb hr rfl (fun t9 ht9 hW9 => ⟨⟨_, rfl, _, rfl, ⟨by decide, by decide⟩, fun _ => r_9.2 c_10⟩, ht9.trans hHe⟩) (fun _ h9 => by rw [hlc] at h9; exact absurd h9 List.not_mem_nil) dX1_canBeTold_56
          · have r_23 : Rg 0 1 x := Rg.le_l (nlt_le c_21) r_6 (Rg.c (c := 1) (k := 1) rfl) (by decide)
            refine lv_iload_n hx hb dX1_canBeTold_32 rfl (lv_at hl 3 rfl) ?_
            refine lv_if_ne (tgt := 40) hx hb dX1_canBeTold_33 (by decide) (fun c_33 => ?_) (fun c_33 => ?_)
            · have r_34 : Rg 1 7 h := Rg.ne c_33 r_20 (Rg.c (c := 0) (k := 0) rfl) (by decide)
              refine lv_iconst (v := 0) hx hb dX1_canBeTold_40 (by decide) ?_
              exact W.zret (v := 0) (ty := .boolean) hx hb hr rfl (fun t9 ht9 hW9 => ⟨⟨_, rfl, _, rfl, ⟨by decide, by decide⟩, hb_0 rfl⟩, ht9.trans hHe⟩) (fun _ h9 => by rw [hlc] at h9; exact absurd h9 List.not_mem_nil) dX1_canBeTold_41
            · have r_35 : Rg 0 0 h := Rg.eq_l c_33 r_20 (Rg.c (c := 0) (k := 0) rfl) (by decide)
              refine lv_iconst (v := 1) hx hb dX1_canBeTold_36 (by decide) ?_
              refine lv_goto (tgt := 41) hx hb dX1_canBeTold_37 (by decide) ?_
              exact W.zret (v := 1) (ty := .boolean) hx hb hr rfl (fun t9 ht9 hW9 => ⟨⟨_, rfl, _, rfl, ⟨by decide, by decide⟩, fun _ => r_9.2 c_10⟩, ht9.trans hHe⟩) (fun _ h9 => by rw [hlc] at h9; exact absurd h9 List.not_mem_nil) dX1_canBeTold_41
        · have r_19 : Rg 0 0 x_14 := Rg.eq_l c_17 r_16.1 (Rg.c (c := 0) (k := 0) rfl) (by decide)
          refine lv_iconst (v := 0) hx hb dX1_canBeTold_25 (by decide) ?_
          exact W.zret (v := 0) (ty := .boolean) hx hb hr rfl (fun t9 ht9 hW9 => ⟨⟨_, rfl, _, rfl, ⟨by decide, by decide⟩, hb_0 rfl⟩, ht9.trans hHe⟩) (fun _ h9 => by rw [hlc] at h9; exact absurd h9 List.not_mem_nil) dX1_canBeTold_26
