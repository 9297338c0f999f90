set_option maxHeartbeats 4000000 in
set_option maxRecDepth 100000 in
theorem c_Lift_canBe_x (l : Launch) (D : va_G) (cs : Nat → ClassId) (hl0 : Nat) (lb : Int32) (lh : Int32) (lg : Int32) (lw : Int32) (lv : Int32) (lbs : Int32) (lti : Int32) (lts : Int32) (le : Int32) (lk : Int32) (la : Int32) (l0 : Nat) (l1 : Nat) (l2 : Nat) (l3 : Nat) (l4 : Nat) (l5 : Nat) (l6 : Nat) (l7 : Nat) (f0 : Nat → Int32) (f1 : Nat → Int32) (a : Int32) (b : Int32) (h : Int32) (r_lb : Rg 0 8 lb) (r_lh : Rg 0 8 lh) (r_le : Rg 0 6 le) (r_b : Rg 0 7 b) (r_h : Rg 0 7 h) (r_a : Rg 0 65535 a) : Met l yX2_canBe (Cond.code yX2_canBe cX2_canBe 4 (some .boolean) :: TB) (RM 2 0 0) (va_Pc [.ref hl0, .int a, .int b, .int h] (PRR D cs [(hl0, .inr (2, [.int lb, .int lh, .int lg, .int lw, .int lv, .int lbs, .int lti, .int lts, .int le, .int lk, .int la, .ref l0, .ref l1, .ref l2, .ref l3, .ref l4, .ref l5, .ref l6, .ref l7])), (l0, .inl ((cs 0), 8, .inl f0)), (l1, .inl ((cs 0), 8, .inl f1))])) (QP (fun v => ∃ x : Int32, v = .int x ∧ Rg 0 1 x ∧ (¬ x = 0 → bt (cN a / 256) (cN b) = 0 ∧ bt (cN a % 256) (cN h) = 0))) 0 0 (fun _ => False) := by
  refine MER (y := yX2_canBe) (cc := cX2_canBe) (maxL := 4) (ret := (some .boolean)) (d := 2) (D := D) (cs := cs) (ws := [(hl0, .inr (2, [.int lb, .int lh, .int lg, .int lw, .int lv, .int lbs, .int lti, .int lts, .int le, .int lk, .int la, .ref l0, .ref l1, .ref l2, .ref l3, .ref l4, .ref l5, .ref l6, .ref l7])), (l0, .inl ((cs 0), 8, .inl f0)), (l1, .inl ((cs 0), 8, .inl f1))]) (av := [.ref hl0, .int a, .int b, .int h]) (Qc := QP (fun v => ∃ x : Int32, v = .int x ∧ Rg 0 1 x ∧ (¬ x = 0 → bt (cN a / 256) (cN b) = 0 ∧ bt (cN a % 256) (cN h) = 0))) (by decide) (Nat.le_of_ble_eq_true rfl) ?_
  intro p e s m below meth c ls H hHe hx hb hr hml hown hts hlocks hP hK hN hl
  obtain ⟨locs, hlc⟩ : ∃ z : List Loc, z = [] := ⟨_, rfl⟩
  rw [← hlc]
  have hown : s.vm.findClass "WrongHole$Lift" = some m.cls := hown
  have hT : ∀ w ∈ TB, w.before ([.ref hl0, .int a, .int b, .int h] : List Value).toArray s = true := fun w h => hts w (List.mem_cons_of_mem _ h)
  have hl : lv_has ls 4 [(0, .ref hl0), (1, .int a), (2, .int b), (3, .int h)] := hl
  have hP : va_P D vwCl [(hl0, .inr (2, [.int lb, .int lh, .int lg, .int lw, .int lv, .int lbs, .int lti, .int lts, .int le, .int lk, .int la, .ref l0, .ref l1, .ref l2, .ref l3, .ref l4, .ref l5, .ref l6, .ref l7])), (l0, .inl ((cs 0), 8, .inl f0)), (l1, .inl ((cs 0), 8, .inl f1))] H := hP
  refine lv_iload_n hx hb dX2_canBe_0 rfl (lv_at hl 1 rfl) ?_
  have hPc := va_P.sub (ws' := []) hP [] rfl
  refine cl_V (W.runS (As := [.int a]) (rest := []) ⟨hx, hb, hml, hown, hts⟩ (c_Rows_in_x l D cs a r_a) ⟨callB_of 1 hts (gd_C qq_2_230) rfl rfl rfl (hT _ qq_1_16) (hT _ qq_3_11) (by decide +kernel) (rm_R rfl rfl), (hT _ qq_2_229)⟩ (pq_S hPc hK hN) rfl rfl hl.1 rfl (lv_room (Nat.le_of_ble_eq_true rfl)) dX2_canBe_1 ⟨Nat.le_of_ble_eq_true rfl, Nat.le_of_ble_eq_true rfl⟩) ?_
  refine lv_topi (fun x_1 e_2 => ?_)
  have r_3 : Rg 0 255 x_1 := Rg.of e_2 (rg_in r_a)
  refine lv_iload_n hx hb dX2_canBe_4 rfl (lv_at hl 2 rfl) ?_
  refine lv_ishr hx hb dX2_canBe_5 ?_
  refine lv_topi (fun x_4 e_5 => ?_)
  have r_6 : Rg 0 255 x_4 := Rg.shrn e_5 r_3
  refine lv_iconst (v := 1) hx hb dX2_canBe_6 (by decide) ?_
  refine lv_iand hx hb dX2_canBe_7 ?_
  refine lv_topi (fun x_7 e_8 => ?_)
  have r_9 : Rg 0 1 x_7 := Rg.and e_8 (Rg.c (c := 1) (k := 1) rfl) (by decide)
  refine lv_if_ne (tgt := 44) hx hb dX2_canBe_8 (by decide) (fun c_10 => ?_) (fun c_10 => ?_)
  · have r_11 : Rg 1 1 x_7 := Rg.ne c_10 r_9 (Rg.c (c := 0) (k := 0) rfl) (by decide)
    refine lv_iconst (v := 0) hx hb dX2_canBe_44 (by decide) ?_
    exact W.zret (v := 0) (ty := .boolean) hx hb hr rfl (fun t9 ht9 hW9 => ⟨⟨_, rfl, _, rfl, ⟨⟨by decide, by decide⟩, fun q9 => absurd rfl q9⟩⟩, ht9.trans hHe⟩) (fun _ h9 => by rw [hlc] at h9; exact absurd h9 List.not_mem_nil) dX2_canBe_45
  · have r_12 : Rg 0 0 x_7 := Rg.eq_l c_10 r_9 (Rg.c (c := 0) (k := 0) rfl) (by decide)
    refine lv_iload_n hx hb dX2_canBe_11 rfl (lv_at hl 1 rfl) ?_
    have hPc := va_P.sub (ws' := []) hP [] rfl
    refine cl_V (W.runS (As := [.int a]) (rest := []) ⟨hx, hb, hml, hown, hts⟩ (c_Rows_held_x l D cs a r_a) ⟨callB_of 1 hts (gd_C qq_3_0) rfl rfl rfl (hT _ qq_1_16) (hT _ qq_3_12) (by decide +kernel) (rm_R rfl rfl), (hT _ qq_2_239)⟩ (pq_S hPc hK hN) rfl rfl hl.1 rfl (lv_room (Nat.le_of_ble_eq_true rfl)) dX2_canBe_12 ⟨Nat.le_of_ble_eq_true rfl, Nat.le_of_ble_eq_true rfl⟩) ?_
    refine lv_topi (fun x_37 e_38 => ?_)
    have r_39 : Rg 0 255 x_37 := Rg.of e_38 (rg_held _)
    refine lv_iload_n hx hb dX2_canBe_15 rfl (lv_at hl 3 rfl) ?_
    refine lv_ishr hx hb dX2_canBe_16 ?_
    refine lv_topi (fun x_40 e_41 => ?_)
    have r_42 : Rg 0 255 x_40 := Rg.shrn e_41 r_39
    refine lv_iconst (v := 1) hx hb dX2_canBe_17 (by decide) ?_
    refine lv_iand hx hb dX2_canBe_18 ?_
    refine lv_topi (fun x_43 e_44 => ?_)
    have r_45 : Rg 0 1 x_43 := Rg.and e_44 (Rg.c (c := 1) (k := 1) rfl) (by decide)
    refine lv_if_ne (tgt := 44) hx hb dX2_canBe_19 (by decide) (fun c_46 => ?_) (fun c_46 => ?_)
    · have r_47 : Rg 1 1 x_43 := Rg.ne c_46 r_45 (Rg.c (c := 0) (k := 0) rfl) (by decide)
      refine lv_iconst (v := 0) hx hb dX2_canBe_44 (by decide) ?_
      exact W.zret (v := 0) (ty := .boolean) hx hb hr rfl (fun t9 ht9 hW9 => ⟨⟨_, rfl, _, rfl, ⟨⟨by decide, by decide⟩, fun q9 => absurd rfl q9⟩⟩, ht9.trans hHe⟩) (fun _ h9 => by rw [hlc] at h9; exact absurd h9 List.not_mem_nil) dX2_canBe_45
    · have r_48 : Rg 0 0 x_43 := Rg.eq_l c_46 r_45 (Rg.c (c := 0) (k := 0) rfl) (by decide)
      refine lv_aload_n hx hb dX2_canBe_22 rfl (lv_at hl 0 rfl) ?_
      refine lv_iload_n hx hb dX2_canBe_23 rfl (lv_at hl 2 rfl) ?_
      refine lv_iload_n hx hb dX2_canBe_24 rfl (lv_at hl 3 rfl) ?_
      have hPc := va_P.sub (ws' := [(hl0, .inr (2, [.int lb, .int lh, .int lg, .int lw, .int lv, .int lbs, .int lti, .int lts, .int le, .int lk, .int la, .ref l0, .ref l1, .ref l2, .ref l3, .ref l4, .ref l5, .ref l6, .ref l7])), (l0, .inl ((cs 0), 8, .inl f0)), (l1, .inl ((cs 0), 8, .inl f1))]) hP [0, 1, 2] rfl
      refine cl_P (W.runV (As := [.int b, .int h]) (rest := []) ⟨hx, hb, hml, hown, hts⟩ (c_Lift_suits l D cs hl0 lb lh lg lw lv lbs lti lts le lk la l0 l1 l2 l3 l4 l5 l6 l7 f0 f1 b h r_lb r_lh r_le r_b r_h) ⟨callB_of 2 hts (gd_C qq_3_16) rfl rfl rfl (hT _ qq_1_11) (hT _ qq_3_13) (by decide +kernel) (rm_R rfl rfl), (hT _ qq_3_14), (hT _ qq_3_15)⟩ (pq_V hPc hK hN (ci := 2) (q0 := 0) rfl rfl) rfl rfl hl.1 rfl (lv_room (Nat.le_of_ble_eq_true rfl)) dX2_canBe_25 ⟨Nat.le_of_ble_eq_true rfl, Nat.le_of_ble_eq_true rfl⟩) (fun v9 hz_62 => ?_)
      obtain ⟨x_61, rfl, r_63⟩ := hz_62
      refine lv_if_eq (tgt := 44) hx hb dX2_canBe_28 (by decide) (fun c_64 => ?_) (fun c_64 => ?_)
      · have r_65 : Rg 0 0 x_61 := Rg.eq_l c_64 r_63 (Rg.c (c := 0) (k := 0) rfl) (by decide)
        refine lv_iconst (v := 0) hx hb dX2_canBe_44 (by decide) ?_
        exact W.zret (v := 0) (ty := .boolean) hx hb hr rfl (fun t9 ht9 hW9 => ⟨⟨_, rfl, _, rfl, ⟨⟨by decide, by decide⟩, fun q9 => absurd rfl q9⟩⟩, ht9.trans hHe⟩) (fun _ h9 => by rw [hlc] at h9; exact absurd h9 List.not_mem_nil) dX2_canBe_45
      · have r_66 : Rg 1 1 x_61 := Rg.ne c_64 r_63 (Rg.c (c := 0) (k := 0) rfl) (by decide)
        refine lv_iload_n hx hb dX2_canBe_31 rfl (lv_at hl 1 rfl) ?_
        refine lv_iload_n hx hb dX2_canBe_32 rfl (lv_at hl 2 rfl) ?_
        refine lv_iload_n hx hb dX2_canBe_33 rfl (lv_at hl 3 rfl) ?_
        have hPc := va_P.sub (ws' := []) hP [] rfl
        refine cl_P (W.runS (As := [.int a, .int b, .int h]) (rest := []) ⟨hx, hb, hml, hown, hts⟩ (c_Rows_staysRising l D cs a b h) ⟨callB_of 3 hts (gd_C qq_3_19) rfl rfl rfl (hT _ qq_1_16) (hT _ qq_3_17) (by decide +kernel) (rm_R rfl rfl), (hT _ qq_3_18)⟩ (pq_S hPc hK hN) rfl rfl hl.1 rfl (lv_room (Nat.le_of_ble_eq_true rfl)) dX2_canBe_34 ⟨Nat.le_of_ble_eq_true rfl, Nat.le_of_ble_eq_true rfl⟩) (fun v9 hz_74 => ?_)
        obtain ⟨x_73, rfl, r_75⟩ := hz_74
        refine lv_if_eq (tgt := 44) hx hb dX2_canBe_37 (by decide) (fun c_76 => ?_) (fun c_76 => ?_)
        · have r_77 : Rg 0 0 x_73 := Rg.eq_l c_76 r_75 (Rg.c (c := 0) (k := 0) rfl) (by decide)
          refine lv_iconst (v := 0) hx hb dX2_canBe_44 (by decide) ?_
          exact W.zret (v := 0) (ty := .boolean) hx hb hr rfl (fun t9 ht9 hW9 => ⟨⟨_, rfl, _, rfl, ⟨⟨by decide, by decide⟩, fun q9 => absurd rfl q9⟩⟩, ht9.trans hHe⟩) (fun _ h9 => by rw [hlc] at h9; exact absurd h9 List.not_mem_nil) dX2_canBe_45
        · have r_78 : Rg 1 1 x_73 := Rg.ne c_76 r_75 (Rg.c (c := 0) (k := 0) rfl) (by decide)
          refine lv_iconst (v := 1) hx hb dX2_canBe_40 (by decide) ?_
          refine lv_goto (tgt := 45) hx hb dX2_canBe_41 (by decide) ?_
          exact W.zret (v := 1) (ty := .boolean) hx hb hr rfl (fun t9 ht9 hW9 => ⟨⟨_, rfl, _, rfl, ⟨⟨by decide, by decide⟩, fun _ => ⟨(by have h9 := (bt_0 e_8 e_5 r_3 r_b (by decide) c_10); rw [c_in e_2 r_a] at h9; exact h9), (by have h9 := (bt_0 e_44 e_41 r_39 r_h (by decide) c_46); rw [c_held e_38] at h9; exact h9)⟩⟩⟩, ht9.trans hHe⟩) (fun _ h9 => by rw [hlc] at h9; exact absurd h9 List.not_mem_nil) dX2_canBe_45
set_option maxHeartbeats 4000000 in
set_option maxRecDepth 100000 in
theorem c_Lift_mayDo_x (l : Launch) (D : va_G) (cs : Nat → ClassId) (hl0 : Nat) (lb : Int32) (lh : Int32) (lg : Int32) (lw : Int32) (lv : Int32) (lbs : Int32) (lti : Int32) (lts : Int32) (le : Int32) (lk : Int32) (la : Int32) (l0 : Nat) (l1 : Nat) (l2 : Nat) (l3 : Nat) (l4 : Nat) (l5 : Nat) (l6 : Nat) (l7 : Nat) (f0 : Nat → Int32) (f1 : Nat → Int32) (a : Int32) (b : Int32) (h : Int32) (r_lb : Rg 0 8 lb) (r_lh : Rg 0 8 lh) (r_le : Rg 0 6 le) (r_b : Rg 0 7 b) (r_h : Rg 0 7 h) (r_a : Rg 0 65535 a) : Met l yX2_mayDo (Cond.code yX2_mayDo cX2_mayDo 4 (some .boolean) :: TB) (RM 3 0 0) (va_Pc [.ref hl0, .int a, .int b, .int h] (PRR D cs [(hl0, .inr (2, [.int lb, .int lh, .int lg, .int lw, .int lv, .int lbs, .int lti, .int lts, .int le, .int lk, .int la, .ref l0, .ref l1, .ref l2, .ref l3, .ref l4, .ref l5, .ref l6, .ref l7])), (l0, .inl ((cs 0), 8, .inl f0)), (l1, .inl ((cs 0), 8, .inl f1))])) (QP (fun v => ∃ x : Int32, v = .int x ∧ Rg 0 1 x ∧ (¬ x = 0 → bt (cN a / 256) (cN b) = 0 ∧ bt (cN a % 256) (cN h) = 0))) 0 0 (fun _ => False) := by
  refine MER (y := yX2_mayDo) (cc := cX2_mayDo) (maxL := 4) (ret := (some .boolean)) (d := 3) (D := D) (cs := cs) (ws := [(hl0, .inr (2, [.int lb, .int lh, .int lg, .int lw, .int lv, .int lbs, .int lti, .int lts, .int le, .int lk, .int la, .ref l0, .ref l1, .ref l2, .ref l3, .ref l4, .ref l5, .ref l6, .ref l7])), (l0, .inl ((cs 0), 8, .inl f0)), (l1, .inl ((cs 0), 8, .inl f1))]) (av := [.ref hl0, .int a, .int b, .int h]) (Qc := QP (fun v => ∃ x : Int32, v = .int x ∧ Rg 0 1 x ∧ (¬ x = 0 → bt (cN a / 256) (cN b) = 0 ∧ bt (cN a % 256) (cN h) = 0))) (by decide) (Nat.le_of_ble_eq_true rfl) ?_
  intro p e s m below meth c ls H hHe hx hb hr hml hown hts hlocks hP hK hN hl
  obtain ⟨locs, hlc⟩ : ∃ z : List Loc, z = [] := ⟨_, rfl⟩
  rw [← hlc]
  have hown : s.vm.findClass "WrongHole$Lift" = some m.cls := hown
  have hT : ∀ w ∈ TB, w.before ([.ref hl0, .int a, .int b, .int h] : List Value).toArray s = true := fun w h => hts w (List.mem_cons_of_mem _ h)
  have hl : lv_has ls 4 [(0, .ref hl0), (1, .int a), (2, .int b), (3, .int h)] := hl
  have hP : va_P D vwCl [(hl0, .inr (2, [.int lb, .int lh, .int lg, .int lw, .int lv, .int lbs, .int lti, .int lts, .int le, .int lk, .int la, .ref l0, .ref l1, .ref l2, .ref l3, .ref l4, .ref l5, .ref l6, .ref l7])), (l0, .inl ((cs 0), 8, .inl f0)), (l1, .inl ((cs 0), 8, .inl f1))] H := hP
  refine lv_aload_n hx hb dX2_mayDo_0 rfl (lv_at hl 0 rfl) ?_
  refine lv_iload_n hx hb dX2_mayDo_1 rfl (lv_at hl 1 rfl) ?_
  refine lv_iload_n hx hb dX2_mayDo_2 rfl (lv_at hl 2 rfl) ?_
  refine lv_iload_n hx hb dX2_mayDo_3 rfl (lv_at hl 3 rfl) ?_
  have hPc := va_P.sub (ws' := [(hl0, .inr (2, [.int lb, .int lh, .int lg, .int lw, .int lv, .int lbs, .int lti, .int lts, .int le, .int lk, .int la, .ref l0, .ref l1, .ref l2, .ref l3, .ref l4, .ref l5, .ref l6, .ref l7])), (l0, .inl ((cs 0), 8, .inl f0)), (l1, .inl ((cs 0), 8, .inl f1))]) hP [0, 1, 2] rfl
  refine cl_P (W.runV (As := [.int a, .int b, .int h]) (rest := []) ⟨hx, hb, hml, hown, hts⟩ (c_Lift_canBe_x l D cs hl0 lb lh lg lw lv lbs lti lts le lk la l0 l1 l2 l3 l4 l5 l6 l7 f0 f1 a b h r_lb r_lh r_le r_b r_h r_a) ⟨callB_of 3 hts (gd_C qq_3_10) rfl rfl rfl (hT _ qq_1_11) (hT _ qq_4_29) (by decide +kernel) (rm_R rfl rfl), (hT _ qq_3_8), (hT _ qq_3_9)⟩ (pq_V hPc hK hN (ci := 2) (q0 := 0) rfl rfl) rfl rfl hl.1 rfl (lv_room (Nat.le_of_ble_eq_true rfl)) dX2_mayDo_4 ⟨Nat.le_of_ble_eq_true rfl, Nat.le_of_ble_eq_true rfl⟩) (fun v9 hz_2 => ?_)
  obtain ⟨x_1, rfl, r_3⟩ := hz_2
  refine lv_if_eq (tgt := 29) hx hb dX2_mayDo_7 (by decide) (fun c_4 => ?_) (fun c_4 => ?_)
  · have r_5 : Rg 0 0 x_1 := Rg.eq_l c_4 r_3.1 (Rg.c (c := 0) (k := 0) rfl) (by decide)
    refine lv_iconst (v := 0) hx hb dX2_mayDo_29 (by decide) ?_
    exact W.zret (v := 0) (ty := .boolean) hx hb hr rfl (fun t9 ht9 hW9 => ⟨⟨_, rfl, _, rfl, ⟨⟨by decide, by decide⟩, fun q9 => absurd rfl q9⟩⟩, ht9.trans hHe⟩) (fun _ h9 => by rw [hlc] at h9; exact absurd h9 List.not_mem_nil) dX2_mayDo_30
  · have r_6 : Rg 1 1 x_1 := Rg.ne c_4 r_3.1 (Rg.c (c := 0) (k := 0) rfl) (by decide)
    refine lv_aload_n hx hb dX2_mayDo_10 rfl (lv_at hl 0 rfl) ?_
    refine lv_iload_n hx hb dX2_mayDo_11 rfl (lv_at hl 1 rfl) ?_
    have hPc := va_P.sub (ws' := []) hP [] rfl
    refine cl_P (W.runS (As := [.int a]) (rest := [.ref hl0]) ⟨hx, hb, hml, hown, hts⟩ (c_Rows_in l D cs a) ⟨callB_of 1 hts (gd_C qq_2_230) rfl rfl rfl (hT _ qq_1_16) (hT _ qq_3_11) (by decide +kernel) (rm_R rfl rfl), (hT _ qq_2_229)⟩ (pq_S hPc hK hN) rfl rfl hl.1 rfl (lv_room (Nat.le_of_ble_eq_true rfl)) dX2_mayDo_12 ⟨Nat.le_of_ble_eq_true rfl, Nat.le_of_ble_eq_true rfl⟩) (fun v9 hz_23 => ?_)
    obtain ⟨x_22, rfl, r_24⟩ := hz_23
    refine lv_iconst (v := 1) hx hb dX2_mayDo_15 (by decide) ?_
    refine lv_iload_n hx hb dX2_mayDo_16 rfl (lv_at hl 2 rfl) ?_
    refine lv_ishl hx hb dX2_mayDo_17 ?_
    refine lv_topi (fun x_25 e_26 => ?_)
    have r_27 : Rg 0 128 x_25 := Rg.shl (ha := 1) (k := 7) e_26 (Rg.wk (Rg.c (c := 1) (k := 1) rfl) (by decide)) (Rg.wk r_b (by decide)) (by decide) (by decide)
    refine lv_ior hx hb dX2_mayDo_18 ?_
    refine lv_topi (fun x_28 e_29 => ?_)
    have r_30 : Rg 0 255 x_28 := Rg.or (k := 8) e_29 r_24 r_27 (by decide) (by decide)
    have hPc := va_P.sub (ws' := [(hl0, .inr (2, [.int lb, .int lh, .int lg, .int lw, .int lv, .int lbs, .int lti, .int lts, .int le, .int lk, .int la, .ref l0, .ref l1, .ref l2, .ref l3, .ref l4, .ref l5, .ref l6, .ref l7]))]) hP [0] rfl
    refine cl_P (W.runV (As := [.int x_28]) (rest := []) ⟨hx, hb, hml, hown, hts⟩ (c_Lift_lawful l D cs hl0 lb lh lg lw lv lbs lti lts le lk la l0 l1 l2 l3 l4 l5 l6 l7 x_28 r_lb r_lh r_le) ⟨callB_of 1 hts (gd_C qq_3_215) rfl rfl rfl (hT _ qq_1_11) (hT _ qq_3_239) (by decide +kernel) (rm_R rfl rfl), (hT _ qq_3_213), (hT _ qq_3_214)⟩ (pq_V hPc hK hN (ci := 2) (q0 := 0) rfl rfl) rfl rfl hl.1 rfl (lv_room (Nat.le_of_ble_eq_true rfl)) dX2_mayDo_19 ⟨Nat.le_of_ble_eq_true rfl, Nat.le_of_ble_eq_true rfl⟩) (fun v9 hz_32 => ?_)
    obtain ⟨x_31, rfl, r_33⟩ := hz_32
    refine lv_if_eq (tgt := 29) hx hb dX2_mayDo_22 (by decide) (fun c_34 => ?_) (fun c_34 => ?_)
    · have r_35 : Rg 0 0 x_31 := Rg.eq_l c_34 r_33 (Rg.c (c := 0) (k := 0) rfl) (by decide)
      refine lv_iconst (v := 0) hx hb dX2_mayDo_29 (by decide) ?_
      exact W.zret (v := 0) (ty := .boolean) hx hb hr rfl (fun t9 ht9 hW9 => ⟨⟨_, rfl, _, rfl, ⟨⟨by decide, by decide⟩, fun q9 => absurd rfl q9⟩⟩, ht9.trans hHe⟩) (fun _ h9 => by rw [hlc] at h9; exact absurd h9 List.not_mem_nil) dX2_mayDo_30
    · have r_36 : Rg 1 1 x_31 := Rg.ne c_34 r_33 (Rg.c (c := 0) (k := 0) rfl) (by decide)
      refine lv_iconst (v := 1) hx hb dX2_mayDo_25 (by decide) ?_
      refine lv_goto (tgt := 30) hx hb dX2_mayDo_26 (by decide) ?_
      exact W.zret (v := 1) (ty := .boolean) hx hb hr rfl (fun t9 ht9 hW9 => ⟨⟨_, rfl, _, rfl, ⟨⟨by decide, by decide⟩, fun _ => r_3.2 c_4⟩⟩, ht9.trans hHe⟩) (fun _ h9 => by rw [hlc] at h9; exact absurd h9 List.not_mem_nil) dX2_mayDo_30
set_option maxHeartbeats 4000000 in
set_option maxRecDepth 100000 in
theorem c_Lift_mayUndo_x (l : Launch) (D : va_G) (cs : Nat → ClassId) (hl0 : Nat) (lb : Int32) (lh : Int32) (lg : Int32) (lw : Int32) (lv : Int32) (lbs : Int32) (lti : Int32) (lts : Int32) (le : Int32) (lk : Int32) (la : Int32) (l0 : Nat) (l1 : Nat) (l2 : Nat) (l3 : Nat) (l4 : Nat) (l5 : Nat) (l6 : Nat) (l7 : Nat) (a : Int32) (b : Int32) (r_lb : Rg 0 8 lb) (r_lh : Rg 0 8 lh) (r_le : Rg 0 6 le) (r_b : Rg 0 7 b) (r_a : Rg 0 65535 a) : Met l yX2_mayUndo (Cond.code yX2_mayUndo cX2_mayUndo 4 (some .boolean) :: TB) (RM 2 0 0) (va_Pc [.ref hl0, .int a, .int b] (PRR D cs [(hl0, .inr (2, [.int lb, .int lh, .int lg, .int lw, .int lv, .int lbs, .int lti, .int lts, .int le, .int lk, .int la, .ref l0, .ref l1, .ref l2, .ref l3, .ref l4, .ref l5, .ref l6, .ref l7]))])) (QP (fun v => ∃ x : Int32, v = .int x ∧ Rg 0 1 x ∧ (¬ x = 0 → bt (cN a / 256) (cN b) = 1))) 0 0 (fun _ => False) := by
  refine MER (y := yX2_mayUndo) (cc := cX2_mayUndo) (maxL := 4) (ret := (some .boolean)) (d := 2) (D := D) (cs := cs) (ws := [(hl0, .inr (2, [.int lb, .int lh, .int lg, .int lw, .int lv, .int lbs, .int lti, .int lts, .int le, .int lk, .int la, .ref l0, .ref l1, .ref l2, .ref l3, .ref l4, .ref l5, .ref l6, .ref l7]))]) (av := [.ref hl0, .int a, .int b]) (Qc := QP (fun v => ∃ x : Int32, v = .int x ∧ Rg 0 1 x ∧ (¬ x = 0 → bt (cN a / 256) (cN b) = 1))) (by decide) (Nat.le_of_ble_eq_true rfl) ?_
  intro p e s m below meth c ls H hHe hx hb hr hml hown hts hlocks hP hK hN hl
  obtain ⟨locs, hlc⟩ : ∃ z : List Loc, z = [] := ⟨_, rfl⟩
  rw [← hlc]
  have hown : s.vm.findClass "WrongHole$Lift" = some m.cls := hown
  have hT : ∀ w ∈ TB, w.before ([.ref hl0, .int a, .int b] : List Value).toArray s = true := fun w h => hts w (List.mem_cons_of_mem _ h)
  have hl : lv_has ls 4 [(0, .ref hl0), (1, .int a), (2, .int b)] := hl
  have hP : va_P D vwCl [(hl0, .inr (2, [.int lb, .int lh, .int lg, .int lw, .int lv, .int lbs, .int lti, .int lts, .int le, .int lk, .int la, .ref l0, .ref l1, .ref l2, .ref l3, .ref l4, .ref l5, .ref l6, .ref l7]))] H := hP
  refine lv_iload_n hx hb dX2_mayUndo_0 rfl (lv_at hl 1 rfl) ?_
  have hPc := va_P.sub (ws' := []) hP [] rfl
  refine cl_V (W.runS (As := [.int a]) (rest := []) ⟨hx, hb, hml, hown, hts⟩ (c_Rows_in_x l D cs a r_a) ⟨callB_of 1 hts (gd_C qq_2_230) rfl rfl rfl (hT _ qq_1_16) (hT _ qq_3_11) (by decide +kernel) (rm_R rfl rfl), (hT _ qq_2_229)⟩ (pq_S hPc hK hN) rfl rfl hl.1 rfl (lv_room (Nat.le_of_ble_eq_true rfl)) dX2_mayUndo_1 ⟨Nat.le_of_ble_eq_true rfl, Nat.le_of_ble_eq_true rfl⟩) ?_
  refine lv_topi (fun x_1 e_2 => ?_)
  have r_3 : Rg 0 255 x_1 := Rg.of e_2 (rg_in r_a)
  refine lv_istore_n (lv' := [(3, .int x_1), (0, .ref hl0), (1, .int a), (2, .int b)]) hx hb dX2_mayUndo_4 rfl hl (by decide) rfl (fun ls hl => ?_)
  refine lv_iload_n hx hb dX2_mayUndo_5 rfl (lv_at hl 0 rfl) ?_
  refine lv_iload_n hx hb dX2_mayUndo_6 rfl (lv_at hl 3 rfl) ?_
  refine lv_ishr hx hb dX2_mayUndo_7 ?_
  refine lv_topi (fun x_4 e_5 => ?_)
  have r_6 : Rg 0 255 x_4 := Rg.shrn e_5 r_3
  refine lv_iconst (v := 1) hx hb dX2_mayUndo_8 (by decide) ?_
  refine lv_iand hx hb dX2_mayUndo_9 ?_
  refine lv_topi (fun x_7 e_8 => ?_)
  have r_9 : Rg 0 1 x_7 := Rg.and e_8 (Rg.c (c := 1) (k := 1) rfl) (by decide)
  refine lv_if_eq (tgt := 31) hx hb dX2_mayUndo_10 (by decide) (fun c_10 => ?_) (fun c_10 => ?_)
  · have r_11 : Rg 0 0 x_7 := Rg.eq_l c_10 r_9 (Rg.c (c := 0) (k := 0) rfl) (by decide)
    refine lv_iconst (v := 0) hx hb dX2_mayUndo_31 (by decide) ?_
    exact W.zret (v := 0) (ty := .boolean) hx hb hr rfl (fun t9 ht9 hW9 => ⟨⟨_, rfl, _, rfl, ⟨⟨by decide, by decide⟩, fun q9 => absurd rfl q9⟩⟩, ht9.trans hHe⟩) (fun _ h9 => by rw [hlc] at h9; exact absurd h9 List.not_mem_nil) dX2_mayUndo_32
  · have r_12 : Rg 1 1 x_7 := Rg.ne c_10 r_9 (Rg.c (c := 0) (k := 0) rfl) (by decide)
    refine lv_aload_n hx hb dX2_mayUndo_13 rfl (lv_at hl 1 rfl) ?_
    refine lv_iload_n hx hb dX2_mayUndo_14 rfl (lv_at hl 0 rfl) ?_
    refine lv_iconst (v := 1) hx hb dX2_mayUndo_15 (by decide) ?_
    refine lv_iload_n hx hb dX2_mayUndo_16 rfl (lv_at hl 3 rfl) ?_
    refine lv_ishl hx hb dX2_mayUndo_17 ?_
    refine lv_topi (fun x_27 e_28 => ?_)
    have r_29 : Rg 0 128 x_27 := Rg.shl (ha := 1) (k := 7) e_28 (Rg.wk (Rg.c (c := 1) (k := 1) rfl) (by decide)) (Rg.wk r_b (by decide)) (by decide) (by decide)
    refine lv_iconst (v := (-1)) hx hb dX2_mayUndo_18 (by decide) ?_
    refine lv_ixor hx hb dX2_mayUndo_19 ?_
    refine lv_topi (fun x_30 e_31 => ?_)
    refine lv_iand hx hb dX2_mayUndo_20 ?_
    refine lv_topi (fun x_32 e_33 => ?_)
    have r_34 : Rg 0 255 x_32 := Rg.andl e_33 r_3 (by decide)
    have hPc := va_P.sub (ws' := [(hl0, .inr (2, [.int lb, .int lh, .int lg, .int lw, .int lv, .int lbs, .int lti, .int lts, .int le, .int lk, .int la, .ref l0, .ref l1, .ref l2, .ref l3, .ref l4, .ref l5, .ref l6, .ref l7]))]) hP [0] rfl
    refine cl_P (W.runV (As := [.int x_32]) (rest := []) ⟨hx, hb, hml, hown, hts⟩ (c_Lift_lawful l D cs hl0 lb lh lg lw lv lbs lti lts le lk la l0 l1 l2 l3 l4 l5 l6 l7 x_32 r_lb r_lh r_le) ⟨callB_of 1 hts (gd_C qq_3_215) rfl rfl rfl (hT _ qq_1_11) (hT _ qq_3_239) (by decide +kernel) (rm_R rfl rfl), (hT _ qq_3_213), (hT _ qq_3_214)⟩ (pq_V hPc hK hN (ci := 2) (q0 := 0) rfl rfl) rfl rfl hl.1 rfl (lv_room (Nat.le_of_ble_eq_true rfl)) dX2_mayUndo_21 ⟨Nat.le_of_ble_eq_true rfl, Nat.le_of_ble_eq_true rfl⟩) (fun v9 hz_36 => ?_)
    obtain ⟨x_35, rfl, r_37⟩ := hz_36
    refine lv_if_eq (tgt := 31) hx hb dX2_mayUndo_24 (by decide) (fun c_38 => ?_) (fun c_38 => ?_)
    · have r_39 : Rg 0 0 x_35 := Rg.eq_l c_38 r_37 (Rg.c (c := 0) (k := 0) rfl) (by decide)
      refine lv_iconst (v := 0) hx hb dX2_mayUndo_31 (by decide) ?_
      exact W.zret (v := 0) (ty := .boolean) hx hb hr rfl (fun t9 ht9 hW9 => ⟨⟨_, rfl, _, rfl, ⟨⟨by decide, by decide⟩, fun q9 => absurd rfl q9⟩⟩, ht9.trans hHe⟩) (fun _ h9 => by rw [hlc] at h9; exact absurd h9 List.not_mem_nil) dX2_mayUndo_32
    · have r_40 : Rg 1 1 x_35 := Rg.ne c_38 r_37 (Rg.c (c := 0) (k := 0) rfl) (by decide)
      refine lv_iconst (v := 1) hx hb dX2_mayUndo_27 (by decide) ?_
      refine lv_goto (tgt := 32) hx hb dX2_mayUndo_28 (by decide) ?_
      exact W.zret (v := 1) (ty := .boolean) hx hb hr rfl (fun t9 ht9 hW9 => ⟨⟨_, rfl, _, rfl, ⟨⟨by decide, by decide⟩, fun _ => (by have h9 := (bt_1 e_8 e_5 r_3 r_b (by decide) c_10); rw [c_in e_2 r_a] at h9; exact h9)⟩⟩, ht9.trans hHe⟩) (fun _ h9 => by rw [hlc] at h9; exact absurd h9 List.not_mem_nil) dX2_mayUndo_32
theorem dX2_mustUndo_0 : decode cX2_mustUndo 0 = .ok (.aload_n 0, 1) := by decide +kernel
theorem dX2_mustUndo_1 : decode cX2_mustUndo 1 = .ok (.getfield 54, 3) := by decide +kernel
theorem dX2_mustUndo_4 : decode cX2_mustUndo 4 = .ok (.aload_n 0, 1) := by decide +kernel
theorem dX2_mustUndo_5 : decode cX2_mustUndo 5 = .ok (.getfield 54, 3) := by decide +kernel
theorem dX2_mustUndo_8 : decode cX2_mustUndo 8 = .ok (.invokestatic 118, 3) := by decide +kernel
theorem qq_4_117 : Cond.methodLink "WrongHole$Lift" 118 yX6_keyOf ∈ TB := mk_tb (ti_4 (List.mem_of_getElem? (i := 117) rfl)) rfl
theorem dX2_mustUndo_11 : decode cX2_mustUndo 11 = .ok (.istore_n 2, 1) := by decide +kernel
theorem dX2_mustUndo_12 : decode cX2_mustUndo 12 = .ok (.iload_n 1, 1) := by decide +kernel
theorem dX2_mustUndo_13 : decode cX2_mustUndo 13 = .ok (.invokestatic 122, 3) := by decide +kernel
theorem qq_4_120 : Cond.methodLink "WrongHole$Lift" 122 yX6_wrong ∈ TB := mk_tb (ti_4 (List.mem_of_getElem? (i := 120) rfl)) rfl
theorem dX2_mustUndo_16 : decode cX2_mustUndo 16 = .ok (.istore_n 3, 1) := by decide +kernel
theorem dX2_mustUndo_17 : decode cX2_mustUndo 17 = .ok (.iconst 0, 1) := by decide +kernel
theorem dX2_mustUndo_18 : decode cX2_mustUndo 18 = .ok (.istore 4, 2) := by decide +kernel
theorem dX2_mustUndo_20 : decode cX2_mustUndo 20 = .ok (.iconst 0, 1) := by decide +kernel
theorem dX2_mustUndo_21 : decode cX2_mustUndo 21 = .ok (.istore 5, 2) := by decide +kernel
theorem dX2_mustUndo_23 : decode cX2_mustUndo 23 = .ok (.iload 5, 2) := by decide +kernel
theorem dX2_mustUndo_25 : decode cX2_mustUndo 25 = .ok (.aload_n 0, 1) := by decide +kernel
theorem dX2_mustUndo_26 : decode cX2_mustUndo 26 = .ok (.getfield 44, 3) := by decide +kernel
theorem dX2_mustUndo_29 : decode cX2_mustUndo 29 = .ok (.if_icmp .ge 37, 3) := by decide +kernel
theorem dX2_mustUndo_66 : decode cX2_mustUndo 66 = .ok (.iload 4, 2) := by decide +kernel
theorem dX2_mustUndo_68 : decode cX2_mustUndo 68 = .ok (.ireturn, 1) := by decide +kernel
theorem dX2_mustUndo_32 : decode cX2_mustUndo 32 = .ok (.iload_n 3, 1) := by decide +kernel
theorem dX2_mustUndo_33 : decode cX2_mustUndo 33 = .ok (.iload 5, 2) := by decide +kernel
theorem dX2_mustUndo_35 : decode cX2_mustUndo 35 = .ok (.ishr, 1) := by decide +kernel
theorem dX2_mustUndo_36 : decode cX2_mustUndo 36 = .ok (.iconst 1, 1) := by decide +kernel
theorem dX2_mustUndo_37 : decode cX2_mustUndo 37 = .ok (.iand, 1) := by decide +kernel
theorem dX2_mustUndo_38 : decode cX2_mustUndo 38 = .ok (.ifCond .eq 22, 3) := by decide +kernel
theorem dX2_mustUndo_60 : decode cX2_mustUndo 60 = .ok (.iinc 5 1, 3) := by decide +kernel
theorem dX2_mustUndo_63 : decode cX2_mustUndo 63 = .ok (.goto (-40), 3) := by decide +kernel
theorem dX2_mustUndo_41 : decode cX2_mustUndo 41 = .ok (.aload_n 0, 1) := by decide +kernel
theorem dX2_mustUndo_42 : decode cX2_mustUndo 42 = .ok (.iload_n 2, 1) := by decide +kernel
theorem dX2_mustUndo_43 : decode cX2_mustUndo 43 = .ok (.iload 5, 2) := by decide +kernel
theorem dX2_mustUndo_45 : decode cX2_mustUndo 45 = .ok (.iload_n 1, 1) := by decide +kernel
theorem dX2_mustUndo_46 : decode cX2_mustUndo 46 = .ok (.iload 5, 2) := by decide +kernel
theorem dX2_mustUndo_48 : decode cX2_mustUndo 48 = .ok (.invokestatic 125, 3) := by decide +kernel
theorem qq_4_121 : Cond.methodLink "WrongHole$Lift" 125 yX6_holeOf ∈ TB := mk_tb (ti_4 (List.mem_of_getElem? (i := 121) rfl)) rfl
theorem dX2_mustUndo_51 : decode cX2_mustUndo 51 = .ok (.invokevirtual 80, 3) := by decide +kernel
theorem dX2_mustUndo_54 : decode cX2_mustUndo 54 = .ok (.ifCond .ne 6, 3) := by decide +kernel
theorem dX2_mustUndo_57 : decode cX2_mustUndo 57 = .ok (.iinc 4 1, 3) := by decide +kernel
set_option maxHeartbeats 4000000 in
set_option maxRecDepth 100000 in
theorem c_Lift_mustUndo (l : Launch) (D : va_G) (cs : Nat → ClassId) (hl0 : Nat) (lb : Int32) (lh : Int32) (lg : Int32) (lw : Int32) (lv : Int32) (lbs : Int32) (lti : Int32) (lts : Int32) (le : Int32) (lk : Int32) (la : Int32) (l0 : Nat) (l1 : Nat) (l2 : Nat) (l3 : Nat) (l4 : Nat) (l5 : Nat) (l6 : Nat) (l7 : Nat) (f0 : Nat → Int32) (f1 : Nat → Int32) (a : Int32) (r_lb : Rg 0 8 lb) (r_lh : Rg 0 8 lh) (r_le : Rg 0 6 le) (hbk : BK a) : Met l yX2_mustUndo (Cond.code yX2_mustUndo cX2_mustUndo 6 (some .int) :: TB) (RM 4 0 0) (va_Pc [.ref hl0, .int a] (PRR D cs [(hl0, .inr (2, [.int lb, .int lh, .int lg, .int lw, .int lv, .int lbs, .int lti, .int lts, .int le, .int lk, .int la, .ref l0, .ref l1, .ref l2, .ref l3, .ref l4, .ref l5, .ref l6, .ref l7])), (l0, .inl ((cs 0), 8, .inl f0)), (l1, .inl ((cs 0), 8, .inl f1))])) (QP (fun v => ∃ x : Int32, v = .int x)) 0 0 (fun _ => False) := by
  refine MER (y := yX2_mustUndo) (cc := cX2_mustUndo) (maxL := 6) (ret := (some .int)) (d := 4) (D := D) (cs := cs) (ws := [(hl0, .inr (2, [.int lb, .int lh, .int lg, .int lw, .int lv, .int lbs, .int lti, .int lts, .int le, .int lk, .int la, .ref l0, .ref l1, .ref l2, .ref l3, .ref l4, .ref l5, .ref l6, .ref l7])), (l0, .inl ((cs 0), 8, .inl f0)), (l1, .inl ((cs 0), 8, .inl f1))]) (av := [.ref hl0, .int a]) (Qc := QP (fun v => ∃ x : Int32, v = .int x)) (by decide) (Nat.le_of_ble_eq_true rfl) ?_
  intro p e s m below meth c ls H hHe hx hb hr hml hown hts hlocks hP hK hN hl
  obtain ⟨locs, hlc⟩ : ∃ z : List Loc, z = [] := ⟨_, rfl⟩
  rw [← hlc]
  have hown : s.vm.findClass "WrongHole$Lift" = some m.cls := hown
  have hT : ∀ w ∈ TB, w.before ([.ref hl0, .int a] : List Value).toArray s = true := fun w h => hts w (List.mem_cons_of_mem _ h)
  have hl : lv_has ls 6 [(0, .ref hl0), (1, .int a)] := hl
  have hP : va_P D vwCl [(hl0, .inr (2, [.int lb, .int lh, .int lg, .int lw, .int lv, .int lbs, .int lti, .int lts, .int le, .int lk, .int la, .ref l0, .ref l1, .ref l2, .ref l3, .ref l4, .ref l5, .ref l6, .ref l7])), (l0, .inl ((cs 0), 8, .inl f0)), (l1, .inl ((cs 0), 8, .inl f1))] H := hP
  refine lv_aload_n hx hb dX2_mustUndo_0 rfl (lv_at hl 0 rfl) ?_
  refine va_get (D := D) (ci := 2) (v := .int la) (C := "WrongHole$Lift") (T := TX2) (N := 19) hx hb hts (iq_RX2 _) hown hK hP 0 rfl rfl 10 (by decide) (hT _ qq_2_62) (fun _ h9 => h9) rfl dX2_mustUndo_1 ?_
  refine lv_aload_n hx hb dX2_mustUndo_4 rfl (lv_at hl 0 rfl) ?_
  refine va_get (D := D) (ci := 2) (v := .int la) (C := "WrongHole$Lift") (T := TX2) (N := 19) hx hb hts (iq_RX2 _) hown hK hP 0 rfl rfl 10 (by decide) (hT _ qq_2_62) (fun _ h9 => h9) rfl dX2_mustUndo_5 ?_
  have hPc := va_P.sub (ws' := []) hP [] rfl
  refine cl_P (W.runS (As := [.int la, .int la]) (rest := []) ⟨hx, hb, hml, hown, hts⟩ (c_Rows_keyOf l D cs la la) ⟨callB_of 2 hts (gd_C qq_4_119) rfl rfl rfl (hT _ qq_1_16) (hT _ qq_4_117) (by decide +kernel) (rm_R rfl rfl), (hT _ qq_4_118)⟩ (pq_S hPc hK hN) rfl rfl hl.1 rfl (lv_room (Nat.le_of_ble_eq_true rfl)) dX2_mustUndo_8 ⟨Nat.le_of_ble_eq_true rfl, Nat.le_of_ble_eq_true rfl⟩) (fun v9 hz_2 => ?_)
  obtain ⟨x_1, rfl⟩ := hz_2
  refine lv_istore_n (lv' := [(2, .int x_1), (0, .ref hl0), (1, .int a)]) hx hb dX2_mustUndo_11 rfl hl (by decide) rfl (fun ls hl => ?_)
  refine lv_iload_n hx hb dX2_mustUndo_12 rfl (lv_at hl 2 rfl) ?_
  have hPc := va_P.sub (ws' := []) hP [] rfl
  refine cl_P (W.runS (As := [.int a]) (rest := []) ⟨hx, hb, hml, hown, hts⟩ (c_Rows_wrong_x l D cs a hbk.1) ⟨callB_of 1 hts (gd_C qq_3_202) rfl rfl rfl (hT _ qq_1_16) (hT _ qq_4_120) (by decide +kernel) (rm_R rfl rfl), (hT _ qq_3_201)⟩ (pq_S hPc hK hN) rfl rfl hl.1 rfl (lv_room (Nat.le_of_ble_eq_true rfl)) dX2_mustUndo_13 ⟨Nat.le_of_ble_eq_true rfl, Nat.le_of_ble_eq_true rfl⟩) (fun v9 hz_5 => ?_)
  obtain ⟨x_4, rfl, r_6⟩ := hz_5
  refine lv_istore_n (lv' := [(3, .int x_4), (2, .int x_1), (0, .ref hl0), (1, .int a)]) hx hb dX2_mustUndo_16 rfl hl (by decide) rfl (fun ls hl => ?_)
  refine lv_iconst (v := 0) hx hb dX2_mustUndo_17 (by decide) ?_
  refine lv_istore (lv' := [(4, .int 0), (3, .int x_4), (2, .int x_1), (0, .ref hl0), (1, .int a)]) hx hb dX2_mustUndo_18 hl (by decide) rfl (fun ls hl => ?_)
  refine lv_iconst (v := 0) hx hb dX2_mustUndo_20 (by decide) ?_
  refine lv_istore (lv' := [(5, .int 0), (4, .int 0), (3, .int x_4), (2, .int x_1), (0, .ref hl0), (1, .int a)]) hx hb dX2_mustUndo_21 hl (by decide) rfl (fun ls hl => ?_)
  refine w_wh (σ := (Int32) × (Int32)) (fun x9 H locs ls => match x9 with | (v_66, v_67) => Rg 0 8 v_66 ∧ H = s.heap ∧ locs = [] ∧ va_P D vwCl [(hl0, .inr (2, [.int lb, .int lh, .int lg, .int lw, .int lv, .int lbs, .int lti, .int lts, .int le, .int lk, .int la, .ref l0, .ref l1, .ref l2, .ref l3, .ref l4, .ref l5, .ref l6, .ref l7])), (l0, .inl ((cs 0), 8, .inl f0)), (l1, .inl ((cs 0), 8, .inl f1))] H ∧ lv_has ls 6 [(5, .int v_66), (4, .int v_67), (3, .int x_4), (2, .int x_1), (0, .ref hl0), (1, .int a)]) (fun x9 => match x9 with | (v_66, v_67) => (8 - Int32.toInt v_66).toNat) 23 ?_ (0, 0) H locs ls ⟨(Rg.wk (lo2 := 0) (hi2 := 8) (Rg.c (c := 0) (k := 0) rfl) (by decide)), hHe, hlc, hP, lv_sub hl [0, 1, 2, 3, 4, 5] rfl⟩
  rintro ⟨v_66, v_67⟩ H locs ls ⟨r_734, hHe, hlc, hP, hl⟩ ih_733
  refine lv_iload hx hb dX2_mustUndo_23 (lv_at hl 0 rfl) ?_
  refine lv_aload_n hx hb dX2_mustUndo_25 rfl (lv_at hl 4 rfl) ?_
  refine va_get (D := D) (ci := 2) (v := .int lb) (C := "WrongHole$Lift") (T := TX2) (N := 19) hx hb hts (iq_RX2 _) hown hK hP 0 rfl rfl 0 (by decide) (hT _ qq_2_29) (fun _ h9 => h9) rfl dX2_mustUndo_26 ?_
  refine lv_icmp_ge (tgt := 66) hx hb dX2_mustUndo_29 (by decide) (fun c_735 => ?_) (fun c_735 => ?_)
  · refine lv_iload hx hb dX2_mustUndo_66 (lv_at hl 1 rfl) ?_
    exact W.iret (v := v_67) hx hb hr (fun t9 ht9 hW9 => ⟨⟨_, rfl, _, rfl⟩, ht9.trans hHe⟩) (fun _ h9 => by rw [hlc] at h9; exact absurd h9 List.not_mem_nil) dX2_mustUndo_68
  · have r_736 : Rg 0 7 v_66 := Rg.lt_l (nle_lt c_735) r_734 r_lb (by decide)
    have r_737 : Rg 1 8 lb := Rg.lt_r (nle_lt c_735) r_734 r_lb (by decide)
    refine lv_iload_n hx hb dX2_mustUndo_32 rfl (lv_at hl 2 rfl) ?_
    refine lv_iload hx hb dX2_mustUndo_33 (lv_at hl 0 rfl) ?_
    refine lv_ishr hx hb dX2_mustUndo_35 ?_
    refine lv_topi (fun x_773 e_774 => ?_)
    have r_775 : Rg 0 255 x_773 := Rg.shrn e_774 r_6.1
    refine lv_iconst (v := 1) hx hb dX2_mustUndo_36 (by decide) ?_
    refine lv_iand hx hb dX2_mustUndo_37 ?_
    refine lv_topi (fun x_776 e_777 => ?_)
    have r_778 : Rg 0 1 x_776 := Rg.and e_777 (Rg.c (c := 1) (k := 1) rfl) (by decide)
    refine w_cut (σ := (Int32)) (fun (v_793 : Int32) H locs ls => H = s.heap ∧ locs = [] ∧ va_P D vwCl [(hl0, .inr (2, [.int lb, .int lh, .int lg, .int lw, .int lv, .int lbs, .int lti, .int lts, .int le, .int lk, .int la, .ref l0, .ref l1, .ref l2, .ref l3, .ref l4, .ref l5, .ref l6, .ref l7])), (l0, .inl ((cs 0), 8, .inl f0)), (l1, .inl ((cs 0), 8, .inl f1))] H ∧ lv_has ls 6 [(5, .int v_66), (4, .int v_793), (3, .int x_4), (2, .int x_1), (0, .ref hl0), (1, .int a)]) 60 (fun (v_793 : Int32) => []) ?_ (fun hj_794 => ?_)
    · rintro v_793 H locs ls ⟨hHe, hlc, hP, hl⟩
      obtain ⟨x_795, e_796⟩ : ∃ z : Int32, z = v_66 + Int32.ofInt 1 := ⟨_, rfl⟩
      have r_797 : Rg 1 8 x_795 := Rg.add e_796 r_736 (Rg.c (c := Int32.ofInt 1) (k := 1) rfl) (by decide)
      refine lv_iinc (v := x_795) (lv' := [(5, .int x_795), (4, .int v_793), (3, .int x_4), (2, .int x_1), (0, .ref hl0), (1, .int a)]) hx hb dX2_mustUndo_60 hl (k := 0) rfl (e_796.symm) (by decide) rfl (fun ls hl => ?_)
      refine lv_goto (tgt := 23) hx hb dX2_mustUndo_63 (by decide) ?_
      exact ih_733 (x_795, v_793) _ _ _ ⟨(Rg.wk (lo2 := 0) (hi2 := 8) r_797 (by decide)), hHe, hlc, hP, lv_sub hl [0, 1, 2, 3, 4, 5] rfl⟩ (ms_up e_796 r_736 (Rg.c (c := Int32.ofInt 1) (k := 1) rfl) (by decide))
    · refine lv_if_eq (tgt := 60) hx hb dX2_mustUndo_38 (by decide) (fun c_779 => ?_) (fun c_779 => ?_)
      · have r_780 : Rg 0 0 x_776 := Rg.eq_l c_779 r_778 (Rg.c (c := 0) (k := 0) rfl) (by decide)
        exact hj_794 v_67 _ _ _ ⟨hHe, hlc, hP, lv_sub hl [0, 1, 2, 3, 4, 5] rfl⟩
      · have r_781 : Rg 1 1 x_776 := Rg.ne c_779 r_778 (Rg.c (c := 0) (k := 0) rfl) (by decide)
        refine lv_aload_n hx hb dX2_mustUndo_41 rfl (lv_at hl 4 rfl) ?_
        refine lv_iload_n hx hb dX2_mustUndo_42 rfl (lv_at hl 3 rfl) ?_
        refine lv_iload hx hb dX2_mustUndo_43 (lv_at hl 0 rfl) ?_
        refine lv_iload_n hx hb dX2_mustUndo_45 rfl (lv_at hl 5 rfl) ?_
        refine lv_iload hx hb dX2_mustUndo_46 (lv_at hl 0 rfl) ?_
        have hPc := va_P.sub (ws' := []) hP [] rfl
        refine cl_P (W.runS (As := [.int a, .int v_66]) (rest := [.int v_66, .int x_1, .ref hl0]) ⟨hx, hb, hml, hown, hts⟩ (c_Rows_holeOf_x l D cs a v_66 r_736 hbk (r_6.2 _ (cN_lt r_736 (by decide)) (bt_1 e_777 e_774 r_6.1 r_736 (by decide) c_779))) ⟨callB_of 2 hts (gd_C qq_3_167) rfl rfl rfl (hT _ qq_1_16) (hT _ qq_4_121) (by decide +kernel) (rm_R rfl rfl), (hT _ qq_3_166)⟩ (pq_S hPc hK hN) rfl rfl hl.1 rfl (lv_room (Nat.le_of_ble_eq_true rfl)) dX2_mustUndo_48 ⟨Nat.le_of_ble_eq_true rfl, Nat.le_of_ble_eq_true rfl⟩) (fun v9 hz_799 => ?_)
        obtain ⟨x_798, rfl, r_800⟩ := hz_799
        have hPc := va_P.sub (ws' := [(hl0, .inr (2, [.int lb, .int lh, .int lg, .int lw, .int lv, .int lbs, .int lti, .int lts, .int le, .int lk, .int la, .ref l0, .ref l1, .ref l2, .ref l3, .ref l4, .ref l5, .ref l6, .ref l7])), (l0, .inl ((cs 0), 8, .inl f0)), (l1, .inl ((cs 0), 8, .inl f1))]) hP [0, 1, 2] rfl
        refine cl_P (W.runV (As := [.int x_1, .int v_66, .int x_798]) (rest := []) ⟨hx, hb, hml, hown, hts⟩ (c_Lift_canBe l D cs hl0 lb lh lg lw lv lbs lti lts le lk la l0 l1 l2 l3 l4 l5 l6 l7 f0 f1 x_1 v_66 x_798 (Rg.wk (lo2 := 0) (hi2 := 8) r_737 (by decide)) r_lh r_le r_736 r_800.1) ⟨callB_of 3 hts (gd_C qq_3_10) rfl rfl rfl (hT _ qq_1_11) (hT _ qq_4_29) (by decide +kernel) (rm_R rfl rfl), (hT _ qq_3_8), (hT _ qq_3_9)⟩ (pq_V hPc hK hN (ci := 2) (q0 := 0) rfl rfl) rfl rfl hl.1 rfl (lv_room (Nat.le_of_ble_eq_true rfl)) dX2_mustUndo_51 ⟨Nat.le_of_ble_eq_true rfl, Nat.le_of_ble_eq_true rfl⟩) (fun v9 hz_802 => ?_)
        obtain ⟨x_801, rfl, r_803⟩ := hz_802
        refine lv_if_ne (tgt := 60) hx hb dX2_mustUndo_54 (by decide) (fun c_804 => ?_) (fun c_804 => ?_)
        · have r_805 : Rg 1 1 x_801 := Rg.ne c_804 r_803 (Rg.c (c := 0) (k := 0) rfl) (by decide)
          exact hj_794 v_67 _ _ _ ⟨hHe, hlc, hP, lv_sub hl [0, 1, 2, 3, 4, 5] rfl⟩
        · have r_806 : Rg 0 0 x_801 := Rg.eq_l c_804 r_803 (Rg.c (c := 0) (k := 0) rfl) (by decide)
          obtain ⟨x_807, e_808⟩ : ∃ z : Int32, z = v_67 + Int32.ofInt 1 := ⟨_, rfl⟩
          refine lv_iinc (v := x_807) (lv' := [(4, .int x_807), (5, .int v_66), (3, .int x_4), (2, .int x_1), (0, .ref hl0), (1, .int a)]) hx hb dX2_mustUndo_57 hl (k := 1) rfl (e_808.symm) (by decide) rfl (fun ls hl => ?_)
          exact hj_794 x_807 _ _ _ ⟨hHe, hlc, hP, lv_sub hl [1, 0, 2, 3, 4, 5] rfl⟩
