theorem dX2_hasButton_0 : decode cX2_hasButton 0 = .ok (.iload_n 1, 1) := by decide +kernel
theorem dX2_hasButton_1 : decode cX2_hasButton 1 = .ok (.ifCond .lt 15, 3) := by decide +kernel
theorem dX2_hasButton_16 : decode cX2_hasButton 16 = .ok (.iconst 0, 1) := by decide +kernel
theorem dX2_hasButton_17 : decode cX2_hasButton 17 = .ok (.ireturn, 1) := by decide +kernel
theorem dX2_hasButton_4 : decode cX2_hasButton 4 = .ok (.iload_n 1, 1) := by decide +kernel
theorem dX2_hasButton_5 : decode cX2_hasButton 5 = .ok (.aload_n 0, 1) := by decide +kernel
theorem dX2_hasButton_6 : decode cX2_hasButton 6 = .ok (.getfield 44, 3) := by decide +kernel
theorem qq_2_29 : Cond.fieldLink "WrongHole$Lift" 44 "WrongHole$Lift" "buttons" "I" ∈ TB := mk_tb (ti_2 (List.mem_of_getElem? (i := 29) rfl)) rfl
theorem iq_RX2 (cd : Cond) : ∀ w ∈ u_ws RX2 TX2 19, w ∈ cd :: TB := by
  intro w hw
  obtain ⟨k, hk, rfl⟩ := List.mem_map.mp hw
  have hk := List.mem_range.mp hk
  refine List.mem_cons_of_mem _ ?_
  match k, hk with
  | 0, _ => exact mk_tb (ti_2 (List.mem_of_getElem? (i := 85) rfl)) rfl
  | 1, _ => exact mk_tb (ti_2 (List.mem_of_getElem? (i := 87) rfl)) rfl
  | 2, _ => exact mk_tb (ti_2 (List.mem_of_getElem? (i := 89) rfl)) rfl
  | 3, _ => exact mk_tb (ti_2 (List.mem_of_getElem? (i := 91) rfl)) rfl
  | 4, _ => exact mk_tb (ti_2 (List.mem_of_getElem? (i := 93) rfl)) rfl
  | 5, _ => exact mk_tb (ti_2 (List.mem_of_getElem? (i := 95) rfl)) rfl
  | 6, _ => exact mk_tb (ti_2 (List.mem_of_getElem? (i := 97) rfl)) rfl
  | 7, _ => exact mk_tb (ti_2 (List.mem_of_getElem? (i := 99) rfl)) rfl
  | 8, _ => exact mk_tb (ti_2 (List.mem_of_getElem? (i := 101) rfl)) rfl
  | 9, _ => exact mk_tb (ti_2 (List.mem_of_getElem? (i := 103) rfl)) rfl
  | 10, _ => exact mk_tb (ti_2 (List.mem_of_getElem? (i := 105) rfl)) rfl
  | 11, _ => exact mk_tb (ti_2 (List.mem_of_getElem? (i := 107) rfl)) rfl
  | 12, _ => exact mk_tb (ti_2 (List.mem_of_getElem? (i := 109) rfl)) rfl
  | 13, _ => exact mk_tb (ti_2 (List.mem_of_getElem? (i := 111) rfl)) rfl
  | 14, _ => exact mk_tb (ti_2 (List.mem_of_getElem? (i := 113) rfl)) rfl
  | 15, _ => exact mk_tb (ti_2 (List.mem_of_getElem? (i := 115) rfl)) rfl
  | 16, _ => exact mk_tb (ti_2 (List.mem_of_getElem? (i := 117) rfl)) rfl
  | 17, _ => exact mk_tb (ti_2 (List.mem_of_getElem? (i := 119) rfl)) rfl
  | 18, _ => exact mk_tb (ti_2 (List.mem_of_getElem? (i := 121) rfl)) rfl
  | n + 19, h => exact absurd h (by omega)
theorem dX2_hasButton_9 : decode cX2_hasButton 9 = .ok (.if_icmp .ge 7, 3) := by decide +kernel
theorem dX2_hasButton_12 : decode cX2_hasButton 12 = .ok (.iconst 1, 1) := by decide +kernel
theorem dX2_hasButton_13 : decode cX2_hasButton 13 = .ok (.goto 4, 3) := by decide +kernel
set_option maxHeartbeats 4000000 in
set_option maxRecDepth 100000 in
theorem c_Lift_hasButton (l : Launch) (D : va_G) (cs : Nat → ClassId) (hl0 : Nat) (lb : Int32) (lh : Int32) (lg : Int32) (lw : Int32) (lv : Int32) (lbs : Int32) (lti : Int32) (lts : Int32) (le : Int32) (lk : Int32) (la : Int32) (l0 : Nat) (l1 : Nat) (l2 : Nat) (l3 : Nat) (l4 : Nat) (l5 : Nat) (l6 : Nat) (l7 : Nat) (b : Int32)  : Met l yX2_hasButton (Cond.code yX2_hasButton cX2_hasButton 2 (some .boolean) :: TB) (RM 0 0 0) (va_Pc [.ref hl0, .int b] (PRR D cs [(hl0, .inr (2, [.int lb, .int lh, .int lg, .int lw, .int lv, .int lbs, .int lti, .int lts, .int le, .int lk, .int la, .ref l0, .ref l1, .ref l2, .ref l3, .ref l4, .ref l5, .ref l6, .ref l7]))])) (QP (fun v => ∃ x : Int32, v = .int x ∧ Rg 0 1 x ∧ (¬ x = 0 → 0 ≤ Int32.toInt b ∧ Int32.toInt b < Int32.toInt lb))) 0 0 (fun _ => False) := by
  refine MER (y := yX2_hasButton) (cc := cX2_hasButton) (maxL := 2) (ret := (some .boolean)) (d := 0) (D := D) (cs := cs) (ws := [(hl0, .inr (2, [.int lb, .int lh, .int lg, .int lw, .int lv, .int lbs, .int lti, .int lts, .int le, .int lk, .int la, .ref l0, .ref l1, .ref l2, .ref l3, .ref l4, .ref l5, .ref l6, .ref l7]))]) (av := [.ref hl0, .int b]) (Qc := QP (fun v => ∃ x : Int32, v = .int x ∧ Rg 0 1 x ∧ (¬ x = 0 → 0 ≤ Int32.toInt b ∧ Int32.toInt b < Int32.toInt lb))) (by decide) (Nat.le_of_ble_eq_true rfl) ?_
  intro p e s m below meth c ls H hHe hx hb hr hml hown hts hlocks hP hK hN hl
  obtain ⟨locs, hlc⟩ : ∃ z : List Loc, z = [] := ⟨_, rfl⟩
  rw [← hlc]
  have hown : s.vm.findClass "WrongHole$Lift" = some m.cls := hown
  have hT : ∀ w ∈ TB, w.before ([.ref hl0, .int b] : List Value).toArray s = true := fun w h => hts w (List.mem_cons_of_mem _ h)
  have hl : lv_has ls 2 [(0, .ref hl0), (1, .int b)] := hl
  have hP : va_P D vwCl [(hl0, .inr (2, [.int lb, .int lh, .int lg, .int lw, .int lv, .int lbs, .int lti, .int lts, .int le, .int lk, .int la, .ref l0, .ref l1, .ref l2, .ref l3, .ref l4, .ref l5, .ref l6, .ref l7]))] H := hP
  refine lv_iload_n hx hb dX2_hasButton_0 rfl (lv_at hl 1 rfl) ?_
  refine lv_if_lt (tgt := 16) hx hb dX2_hasButton_1 (by decide) (fun c_1 => ?_) (fun c_1 => ?_)
  · have r_2 : Rg (-2147483648) (-1) b := Rg.lt_l c_1 (Rg.top b) (Rg.c (c := 0) (k := 0) rfl) (by decide)
    refine lv_iconst (v := 0) hx hb dX2_hasButton_16 (by decide) ?_
    exact W.zret (v := 0) (ty := .boolean) hx hb hr rfl (fun t9 ht9 hW9 => ⟨⟨_, rfl, _, rfl, ⟨by decide, by decide⟩, hb_0 rfl⟩, ht9.trans hHe⟩) (fun _ h9 => by rw [hlc] at h9; exact absurd h9 List.not_mem_nil) dX2_hasButton_17
  · have r_3 : Rg 0 2147483647 b := Rg.le_r (nlt_le c_1) (Rg.c (c := 0) (k := 0) rfl) (Rg.top b) (by decide)
    refine lv_iload_n hx hb dX2_hasButton_4 rfl (lv_at hl 1 rfl) ?_
    refine lv_aload_n hx hb dX2_hasButton_5 rfl (lv_at hl 0 rfl) ?_
    refine va_get (D := D) (ci := 2) (v := .int lb) (C := "WrongHole$Lift") (T := TX2) (N := 19) hx hb hts (iq_RX2 _) hown hK hP 0 rfl rfl 0 (by decide) (hT _ qq_2_29) (fun _ h9 => h9) rfl dX2_hasButton_6 ?_
    refine lv_icmp_ge (tgt := 16) hx hb dX2_hasButton_9 (by decide) (fun c_7 => ?_) (fun c_7 => ?_)
    · refine lv_iconst (v := 0) hx hb dX2_hasButton_16 (by decide) ?_
      exact W.zret (v := 0) (ty := .boolean) hx hb hr rfl (fun t9 ht9 hW9 => ⟨⟨_, rfl, _, rfl, ⟨by decide, by decide⟩, hb_0 rfl⟩, ht9.trans hHe⟩) (fun _ h9 => by rw [hlc] at h9; exact absurd h9 List.not_mem_nil) dX2_hasButton_17
    · have r_8 : Rg 0 2147483646 b := Rg.lt_l (nle_lt c_7) r_3 (Rg.top lb) (by decide)
      have r_9 : Rg 1 2147483647 lb := Rg.lt_r (nle_lt c_7) r_3 (Rg.top lb) (by decide)
      refine lv_iconst (v := 1) hx hb dX2_hasButton_12 (by decide) ?_
      refine lv_goto (tgt := 17) hx hb dX2_hasButton_13 (by decide) ?_
      exact W.zret (v := 1) (ty := .boolean) hx hb hr rfl (fun t9 ht9 hW9 => ⟨⟨_, rfl, _, rfl, ⟨by decide, by decide⟩, hb_1 r_8 (by decide) (nle_lt c_7)⟩, ht9.trans hHe⟩) (fun _ h9 => by rw [hlc] at h9; exact absurd h9 List.not_mem_nil) dX2_hasButton_17
theorem dX2_hasHole_0 : decode cX2_hasHole 0 = .ok (.iload_n 1, 1) := by decide +kernel
theorem dX2_hasHole_1 : decode cX2_hasHole 1 = .ok (.ifCond .lt 15, 3) := by decide +kernel
theorem dX2_hasHole_16 : decode cX2_hasHole 16 = .ok (.iconst 0, 1) := by decide +kernel
theorem dX2_hasHole_17 : decode cX2_hasHole 17 = .ok (.ireturn, 1) := by decide +kernel
theorem dX2_hasHole_4 : decode cX2_hasHole 4 = .ok (.iload_n 1, 1) := by decide +kernel
theorem dX2_hasHole_5 : decode cX2_hasHole 5 = .ok (.aload_n 0, 1) := by decide +kernel
theorem dX2_hasHole_6 : decode cX2_hasHole 6 = .ok (.getfield 47, 3) := by decide +kernel
theorem qq_2_35 : Cond.fieldLink "WrongHole$Lift" 47 "WrongHole$Lift" "holes" "I" ∈ TB := mk_tb (ti_2 (List.mem_of_getElem? (i := 35) rfl)) rfl
theorem dX2_hasHole_9 : decode cX2_hasHole 9 = .ok (.if_icmp .ge 7, 3) := by decide +kernel
theorem dX2_hasHole_12 : decode cX2_hasHole 12 = .ok (.iconst 1, 1) := by decide +kernel
theorem dX2_hasHole_13 : decode cX2_hasHole 13 = .ok (.goto 4, 3) := by decide +kernel
set_option maxHeartbeats 4000000 in
set_option maxRecDepth 100000 in
theorem c_Lift_hasHole (l : Launch) (D : va_G) (cs : Nat → ClassId) (hl0 : Nat) (lb : Int32) (lh : Int32) (lg : Int32) (lw : Int32) (lv : Int32) (lbs : Int32) (lti : Int32) (lts : Int32) (le : Int32) (lk : Int32) (la : Int32) (l0 : Nat) (l1 : Nat) (l2 : Nat) (l3 : Nat) (l4 : Nat) (l5 : Nat) (l6 : Nat) (l7 : Nat) (b : Int32)  : Met l yX2_hasHole (Cond.code yX2_hasHole cX2_hasHole 2 (some .boolean) :: TB) (RM 0 0 0) (va_Pc [.ref hl0, .int b] (PRR D cs [(hl0, .inr (2, [.int lb, .int lh, .int lg, .int lw, .int lv, .int lbs, .int lti, .int lts, .int le, .int lk, .int la, .ref l0, .ref l1, .ref l2, .ref l3, .ref l4, .ref l5, .ref l6, .ref l7]))])) (QP (fun v => ∃ x : Int32, v = .int x ∧ Rg 0 1 x ∧ (¬ x = 0 → 0 ≤ Int32.toInt b ∧ Int32.toInt b < Int32.toInt lh))) 0 0 (fun _ => False) := by
  refine MER (y := yX2_hasHole) (cc := cX2_hasHole) (maxL := 2) (ret := (some .boolean)) (d := 0) (D := D) (cs := cs) (ws := [(hl0, .inr (2, [.int lb, .int lh, .int lg, .int lw, .int lv, .int lbs, .int lti, .int lts, .int le, .int lk, .int la, .ref l0, .ref l1, .ref l2, .ref l3, .ref l4, .ref l5, .ref l6, .ref l7]))]) (av := [.ref hl0, .int b]) (Qc := QP (fun v => ∃ x : Int32, v = .int x ∧ Rg 0 1 x ∧ (¬ x = 0 → 0 ≤ Int32.toInt b ∧ Int32.toInt b < Int32.toInt lh))) (by decide) (Nat.le_of_ble_eq_true rfl) ?_
  intro p e s m below meth c ls H hHe hx hb hr hml hown hts hlocks hP hK hN hl
  obtain ⟨locs, hlc⟩ : ∃ z : List Loc, z = [] := ⟨_, rfl⟩
  rw [← hlc]
  have hown : s.vm.findClass "WrongHole$Lift" = some m.cls := hown
  have hT : ∀ w ∈ TB, w.before ([.ref hl0, .int b] : List Value).toArray s = true := fun w h => hts w (List.mem_cons_of_mem _ h)
  have hl : lv_has ls 2 [(0, .ref hl0), (1, .int b)] := hl
  have hP : va_P D vwCl [(hl0, .inr (2, [.int lb, .int lh, .int lg, .int lw, .int lv, .int lbs, .int lti, .int lts, .int le, .int lk, .int la, .ref l0, .ref l1, .ref l2, .ref l3, .ref l4, .ref l5, .ref l6, .ref l7]))] H := hP
  refine lv_iload_n hx hb dX2_hasHole_0 rfl (lv_at hl 1 rfl) ?_
  refine lv_if_lt (tgt := 16) hx hb dX2_hasHole_1 (by decide) (fun c_1 => ?_) (fun c_1 => ?_)
  · have r_2 : Rg (-2147483648) (-1) b := Rg.lt_l c_1 (Rg.top b) (Rg.c (c := 0) (k := 0) rfl) (by decide)
    refine lv_iconst (v := 0) hx hb dX2_hasHole_16 (by decide) ?_
    exact W.zret (v := 0) (ty := .boolean) hx hb hr rfl (fun t9 ht9 hW9 => ⟨⟨_, rfl, _, rfl, ⟨by decide, by decide⟩, hb_0 rfl⟩, ht9.trans hHe⟩) (fun _ h9 => by rw [hlc] at h9; exact absurd h9 List.not_mem_nil) dX2_hasHole_17
  · have r_3 : Rg 0 2147483647 b := Rg.le_r (nlt_le c_1) (Rg.c (c := 0) (k := 0) rfl) (Rg.top b) (by decide)
    refine lv_iload_n hx hb dX2_hasHole_4 rfl (lv_at hl 1 rfl) ?_
    refine lv_aload_n hx hb dX2_hasHole_5 rfl (lv_at hl 0 rfl) ?_
    refine va_get (D := D) (ci := 2) (v := .int lh) (C := "WrongHole$Lift") (T := TX2) (N := 19) hx hb hts (iq_RX2 _) hown hK hP 0 rfl rfl 1 (by decide) (hT _ qq_2_35) (fun _ h9 => h9) rfl dX2_hasHole_6 ?_
    refine lv_icmp_ge (tgt := 16) hx hb dX2_hasHole_9 (by decide) (fun c_7 => ?_) (fun c_7 => ?_)
    · refine lv_iconst (v := 0) hx hb dX2_hasHole_16 (by decide) ?_
      exact W.zret (v := 0) (ty := .boolean) hx hb hr rfl (fun t9 ht9 hW9 => ⟨⟨_, rfl, _, rfl, ⟨by decide, by decide⟩, hb_0 rfl⟩, ht9.trans hHe⟩) (fun _ h9 => by rw [hlc] at h9; exact absurd h9 List.not_mem_nil) dX2_hasHole_17
    · have r_8 : Rg 0 2147483646 b := Rg.lt_l (nle_lt c_7) r_3 (Rg.top lh) (by decide)
      have r_9 : Rg 1 2147483647 lh := Rg.lt_r (nle_lt c_7) r_3 (Rg.top lh) (by decide)
      refine lv_iconst (v := 1) hx hb dX2_hasHole_12 (by decide) ?_
      refine lv_goto (tgt := 17) hx hb dX2_hasHole_13 (by decide) ?_
      exact W.zret (v := 1) (ty := .boolean) hx hb hr rfl (fun t9 ht9 hW9 => ⟨⟨_, rfl, _, rfl, ⟨by decide, by decide⟩, hb_1 r_8 (by decide) (nle_lt c_7)⟩, ht9.trans hHe⟩) (fun _ h9 => by rw [hlc] at h9; exact absurd h9 List.not_mem_nil) dX2_hasHole_17
theorem dX2_suits_0 : decode cX2_suits 0 = .ok (.aload_n 0, 1) := by decide +kernel
theorem dX2_suits_1 : decode cX2_suits 1 = .ok (.getfield 57, 3) := by decide +kernel
theorem qq_2_41 : Cond.fieldLink "WrongHole$Lift" 57 "WrongHole$Lift" "gone" "I" ∈ TB := mk_tb (ti_2 (List.mem_of_getElem? (i := 41) rfl)) rfl
theorem dX2_suits_4 : decode cX2_suits 4 = .ok (.iload_n 1, 1) := by decide +kernel
theorem dX2_suits_5 : decode cX2_suits 5 = .ok (.ishr, 1) := by decide +kernel
theorem dX2_suits_6 : decode cX2_suits 6 = .ok (.iconst 1, 1) := by decide +kernel
theorem dX2_suits_7 : decode cX2_suits 7 = .ok (.iand, 1) := by decide +kernel
theorem dX2_suits_8 : decode cX2_suits 8 = .ok (.ifCond .ne 33, 3) := by decide +kernel
theorem dX2_suits_41 : decode cX2_suits 41 = .ok (.iconst 0, 1) := by decide +kernel
theorem dX2_suits_42 : decode cX2_suits 42 = .ok (.ireturn, 1) := by decide +kernel
theorem dX2_suits_11 : decode cX2_suits 11 = .ok (.aload_n 0, 1) := by decide +kernel
theorem dX2_suits_12 : decode cX2_suits 12 = .ok (.getfield 60, 3) := by decide +kernel
theorem qq_2_44 : Cond.fieldLink "WrongHole$Lift" 60 "WrongHole$Lift" "sewn" "I" ∈ TB := mk_tb (ti_2 (List.mem_of_getElem? (i := 44) rfl)) rfl
theorem dX2_suits_15 : decode cX2_suits 15 = .ok (.iload_n 2, 1) := by decide +kernel
theorem dX2_suits_16 : decode cX2_suits 16 = .ok (.ishr, 1) := by decide +kernel
theorem dX2_suits_17 : decode cX2_suits 17 = .ok (.iconst 1, 1) := by decide +kernel
theorem dX2_suits_18 : decode cX2_suits 18 = .ok (.iand, 1) := by decide +kernel
theorem dX2_suits_19 : decode cX2_suits 19 = .ok (.ifCond .ne 22, 3) := by decide +kernel
theorem dX2_suits_22 : decode cX2_suits 22 = .ok (.aload_n 0, 1) := by decide +kernel
theorem dX2_suits_23 : decode cX2_suits 23 = .ok (.getfield 7, 3) := by decide +kernel
theorem qq_2_64 : Cond.fieldLink "WrongHole$Lift" 7 "WrongHole$Lift" "sorts" "[I" ∈ TB := mk_tb (ti_2 (List.mem_of_getElem? (i := 64) rfl)) rfl
theorem dX2_suits_26 : decode cX2_suits 26 = .ok (.iload_n 1, 1) := by decide +kernel
theorem dX2_suits_27 : decode cX2_suits 27 = .ok (.iaload, 1) := by decide +kernel
theorem dX2_suits_28 : decode cX2_suits 28 = .ok (.aload_n 0, 1) := by decide +kernel
theorem dX2_suits_29 : decode cX2_suits 29 = .ok (.getfield 13, 3) := by decide +kernel
theorem qq_2_68 : Cond.fieldLink "WrongHole$Lift" 13 "WrongHole$Lift" "takes" "[I" ∈ TB := mk_tb (ti_2 (List.mem_of_getElem? (i := 68) rfl)) rfl
theorem dX2_suits_32 : decode cX2_suits 32 = .ok (.iload_n 2, 1) := by decide +kernel
theorem dX2_suits_33 : decode cX2_suits 33 = .ok (.iaload, 1) := by decide +kernel
theorem dX2_suits_34 : decode cX2_suits 34 = .ok (.if_icmp .ne 7, 3) := by decide +kernel
theorem dX2_suits_37 : decode cX2_suits 37 = .ok (.iconst 1, 1) := by decide +kernel
theorem dX2_suits_38 : decode cX2_suits 38 = .ok (.goto 4, 3) := by decide +kernel
set_option maxHeartbeats 4000000 in
set_option maxRecDepth 100000 in
theorem c_Lift_suits (l : Launch) (D : va_G) (cs : Nat → ClassId) (hl0 : Nat) (lb : Int32) (lh : Int32) (lg : Int32) (lw : Int32) (lv : Int32) (lbs : Int32) (lti : Int32) (lts : Int32) (le : Int32) (lk : Int32) (la : Int32) (l0 : Nat) (l1 : Nat) (l2 : Nat) (l3 : Nat) (l4 : Nat) (l5 : Nat) (l6 : Nat) (l7 : Nat) (f0 : Nat → Int32) (f1 : Nat → Int32) (b : Int32) (h : Int32) (r_lb : Rg 0 8 lb) (r_lh : Rg 0 8 lh) (r_le : Rg 0 6 le) (r_b : Rg 0 7 b) (r_h : Rg 0 7 h) : Met l yX2_suits (Cond.code yX2_suits cX2_suits 3 (some .boolean) :: TB) (RM 0 0 0) (va_Pc [.ref hl0, .int b, .int h] (PRR D cs [(hl0, .inr (2, [.int lb, .int lh, .int lg, .int lw, .int lv, .int lbs, .int lti, .int lts, .int le, .int lk, .int la, .ref l0, .ref l1, .ref l2, .ref l3, .ref l4, .ref l5, .ref l6, .ref l7])), (l0, .inl ((cs 0), 8, .inl f0)), (l1, .inl ((cs 0), 8, .inl f1))])) (QP (fun v => ∃ x : Int32, v = .int x ∧ Rg 0 1 x)) 0 0 (fun _ => False) := by
  refine MER (y := yX2_suits) (cc := cX2_suits) (maxL := 3) (ret := (some .boolean)) (d := 0) (D := D) (cs := cs) (ws := [(hl0, .inr (2, [.int lb, .int lh, .int lg, .int lw, .int lv, .int lbs, .int lti, .int lts, .int le, .int lk, .int la, .ref l0, .ref l1, .ref l2, .ref l3, .ref l4, .ref l5, .ref l6, .ref l7])), (l0, .inl ((cs 0), 8, .inl f0)), (l1, .inl ((cs 0), 8, .inl f1))]) (av := [.ref hl0, .int b, .int h]) (Qc := QP (fun v => ∃ x : Int32, v = .int x ∧ Rg 0 1 x)) (by decide) (Nat.le_of_ble_eq_true rfl) ?_
  intro p e s m below meth c ls H hHe hx hb hr hml hown hts hlocks hP hK hN hl
  obtain ⟨locs, hlc⟩ : ∃ z : List Loc, z = [] := ⟨_, rfl⟩
  rw [← hlc]
  have hown : s.vm.findClass "WrongHole$Lift" = some m.cls := hown
  have hT : ∀ w ∈ TB, w.before ([.ref hl0, .int b, .int h] : List Value).toArray s = true := fun w h => hts w (List.mem_cons_of_mem _ h)
  have hl : lv_has ls 3 [(0, .ref hl0), (1, .int b), (2, .int h)] := hl
  have hP : va_P D vwCl [(hl0, .inr (2, [.int lb, .int lh, .int lg, .int lw, .int lv, .int lbs, .int lti, .int lts, .int le, .int lk, .int la, .ref l0, .ref l1, .ref l2, .ref l3, .ref l4, .ref l5, .ref l6, .ref l7])), (l0, .inl ((cs 0), 8, .inl f0)), (l1, .inl ((cs 0), 8, .inl f1))] H := hP
  refine lv_aload_n hx hb dX2_suits_0 rfl (lv_at hl 0 rfl) ?_
  refine va_get (D := D) (ci := 2) (v := .int lg) (C := "WrongHole$Lift") (T := TX2) (N := 19) hx hb hts (iq_RX2 _) hown hK hP 0 rfl rfl 2 (by decide) (hT _ qq_2_41) (fun _ h9 => h9) rfl dX2_suits_1 ?_
  refine lv_iload_n hx hb dX2_suits_4 rfl (lv_at hl 1 rfl) ?_
  refine lv_ishr hx hb dX2_suits_5 ?_
  refine lv_topi (fun x_1 e_2 => ?_)
  refine lv_iconst (v := 1) hx hb dX2_suits_6 (by decide) ?_
  refine lv_iand hx hb dX2_suits_7 ?_
  refine lv_topi (fun x_3 e_4 => ?_)
  have r_5 : Rg 0 1 x_3 := Rg.and e_4 (Rg.c (c := 1) (k := 1) rfl) (by decide)
  refine lv_if_ne (tgt := 41) hx hb dX2_suits_8 (by decide) (fun c_6 => ?_) (fun c_6 => ?_)
  · have r_7 : Rg 1 1 x_3 := Rg.ne c_6 r_5 (Rg.c (c := 0) (k := 0) rfl) (by decide)
    refine lv_iconst (v := 0) hx hb dX2_suits_41 (by decide) ?_
    exact W.zret (v := 0) (ty := .boolean) hx hb hr rfl (fun t9 ht9 hW9 => ⟨⟨_, rfl, _, rfl, (Rg.wk (lo2 := 0) (hi2 := 1) (Rg.c (c := 0) (k := 0) rfl) (by decide))⟩, ht9.trans hHe⟩) (fun _ h9 => by rw [hlc] at h9; exact absurd h9 List.not_mem_nil) dX2_suits_42
  · have r_8 : Rg 0 0 x_3 := Rg.eq_l c_6 r_5 (Rg.c (c := 0) (k := 0) rfl) (by decide)
    refine lv_aload_n hx hb dX2_suits_11 rfl (lv_at hl 0 rfl) ?_
    refine va_get (D := D) (ci := 2) (v := .int lw) (C := "WrongHole$Lift") (T := TX2) (N := 19) hx hb hts (iq_RX2 _) hown hK hP 0 rfl rfl 3 (by decide) (hT _ qq_2_44) (fun _ h9 => h9) rfl dX2_suits_12 ?_
    refine lv_iload_n hx hb dX2_suits_15 rfl (lv_at hl 2 rfl) ?_
    refine lv_ishr hx hb dX2_suits_16 ?_
    refine lv_topi (fun x_22 e_23 => ?_)
    refine lv_iconst (v := 1) hx hb dX2_suits_17 (by decide) ?_
    refine lv_iand hx hb dX2_suits_18 ?_
    refine lv_topi (fun x_24 e_25 => ?_)
    have r_26 : Rg 0 1 x_24 := Rg.and e_25 (Rg.c (c := 1) (k := 1) rfl) (by decide)
    refine lv_if_ne (tgt := 41) hx hb dX2_suits_19 (by decide) (fun c_27 => ?_) (fun c_27 => ?_)
    · have r_28 : Rg 1 1 x_24 := Rg.ne c_27 r_26 (Rg.c (c := 0) (k := 0) rfl) (by decide)
      refine lv_iconst (v := 0) hx hb dX2_suits_41 (by decide) ?_
      exact W.zret (v := 0) (ty := .boolean) hx hb hr rfl (fun t9 ht9 hW9 => ⟨⟨_, rfl, _, rfl, (Rg.wk (lo2 := 0) (hi2 := 1) (Rg.c (c := 0) (k := 0) rfl) (by decide))⟩, ht9.trans hHe⟩) (fun _ h9 => by rw [hlc] at h9; exact absurd h9 List.not_mem_nil) dX2_suits_42
    · have r_29 : Rg 0 0 x_24 := Rg.eq_l c_27 r_26 (Rg.c (c := 0) (k := 0) rfl) (by decide)
      refine lv_aload_n hx hb dX2_suits_22 rfl (lv_at hl 0 rfl) ?_
      refine va_get (D := D) (ci := 2) (v := .ref l0) (C := "WrongHole$Lift") (T := TX2) (N := 19) hx hb hts (iq_RX2 _) hown hK hP 0 rfl rfl 11 (by decide) (hT _ qq_2_64) (fun _ h9 => h9) rfl dX2_suits_23 ?_
      refine lv_iload_n hx hb dX2_suits_26 rfl (lv_at hl 1 rfl) ?_
      have hi_35 : vp_in b 8 := Rg.in r_b (by decide)
      refine va_iald hx hb hK hP 1 0 rfl rfl hi_35 dX2_suits_27 ?_
      refine lv_topi (fun x_36 e_37 => ?_)
      refine lv_aload_n hx hb dX2_suits_28 rfl (lv_at hl 0 rfl) ?_
      refine va_get (D := D) (ci := 2) (v := .ref l1) (C := "WrongHole$Lift") (T := TX2) (N := 19) hx hb hts (iq_RX2 _) hown hK hP 0 rfl rfl 12 (by decide) (hT _ qq_2_68) (fun _ h9 => h9) rfl dX2_suits_29 ?_
      refine lv_iload_n hx hb dX2_suits_32 rfl (lv_at hl 2 rfl) ?_
      have hi_38 : vp_in h 8 := Rg.in r_h (by decide)
      refine va_iald hx hb hK hP 2 0 rfl rfl hi_38 dX2_suits_33 ?_
      refine lv_topi (fun x_39 e_40 => ?_)
      refine lv_icmp_ne (tgt := 41) hx hb dX2_suits_34 (by decide) (fun c_41 => ?_) (fun c_41 => ?_)
      · refine lv_iconst (v := 0) hx hb dX2_suits_41 (by decide) ?_
        exact W.zret (v := 0) (ty := .boolean) hx hb hr rfl (fun t9 ht9 hW9 => ⟨⟨_, rfl, _, rfl, (Rg.wk (lo2 := 0) (hi2 := 1) (Rg.c (c := 0) (k := 0) rfl) (by decide))⟩, ht9.trans hHe⟩) (fun _ h9 => by rw [hlc] at h9; exact absurd h9 List.not_mem_nil) dX2_suits_42
      · refine lv_iconst (v := 1) hx hb dX2_suits_37 (by decide) ?_
        refine lv_goto (tgt := 42) hx hb dX2_suits_38 (by decide) ?_
        exact W.zret (v := 1) (ty := .boolean) hx hb hr rfl (fun t9 ht9 hW9 => ⟨⟨_, rfl, _, rfl, (Rg.wk (lo2 := 0) (hi2 := 1) (Rg.c (c := 1) (k := 1) rfl) (by decide))⟩, ht9.trans hHe⟩) (fun _ h9 => by rw [hlc] at h9; exact absurd h9 List.not_mem_nil) dX2_suits_42
theorem dX2_canBe_0 : decode cX2_canBe 0 = .ok (.iload_n 1, 1) := by decide +kernel
theorem dX2_canBe_1 : decode cX2_canBe 1 = .ok (.invokestatic 63, 3) := by decide +kernel
theorem qq_3_11 : Cond.methodLink "WrongHole$Lift" 63 yX6_in ∈ TB := mk_tb (ti_3 (List.mem_of_getElem? (i := 11) rfl)) rfl
theorem dX2_canBe_4 : decode cX2_canBe 4 = .ok (.iload_n 2, 1) := by decide +kernel
theorem dX2_canBe_5 : decode cX2_canBe 5 = .ok (.ishr, 1) := by decide +kernel
theorem dX2_canBe_6 : decode cX2_canBe 6 = .ok (.iconst 1, 1) := by decide +kernel
theorem dX2_canBe_7 : decode cX2_canBe 7 = .ok (.iand, 1) := by decide +kernel
theorem dX2_canBe_8 : decode cX2_canBe 8 = .ok (.ifCond .ne 36, 3) := by decide +kernel
theorem dX2_canBe_44 : decode cX2_canBe 44 = .ok (.iconst 0, 1) := by decide +kernel
theorem dX2_canBe_45 : decode cX2_canBe 45 = .ok (.ireturn, 1) := by decide +kernel
theorem dX2_canBe_11 : decode cX2_canBe 11 = .ok (.iload_n 1, 1) := by decide +kernel
theorem dX2_canBe_12 : decode cX2_canBe 12 = .ok (.invokestatic 69, 3) := by decide +kernel
theorem qq_3_12 : Cond.methodLink "WrongHole$Lift" 69 yX6_held ∈ TB := mk_tb (ti_3 (List.mem_of_getElem? (i := 12) rfl)) rfl
theorem dX2_canBe_15 : decode cX2_canBe 15 = .ok (.iload_n 3, 1) := by decide +kernel
theorem dX2_canBe_16 : decode cX2_canBe 16 = .ok (.ishr, 1) := by decide +kernel
theorem dX2_canBe_17 : decode cX2_canBe 17 = .ok (.iconst 1, 1) := by decide +kernel
theorem dX2_canBe_18 : decode cX2_canBe 18 = .ok (.iand, 1) := by decide +kernel
theorem dX2_canBe_19 : decode cX2_canBe 19 = .ok (.ifCond .ne 25, 3) := by decide +kernel
theorem dX2_canBe_22 : decode cX2_canBe 22 = .ok (.aload_n 0, 1) := by decide +kernel
theorem dX2_canBe_23 : decode cX2_canBe 23 = .ok (.iload_n 2, 1) := by decide +kernel
theorem dX2_canBe_24 : decode cX2_canBe 24 = .ok (.iload_n 3, 1) := by decide +kernel
theorem dX2_canBe_25 : decode cX2_canBe 25 = .ok (.invokevirtual 50, 3) := by decide +kernel
theorem qq_3_16 : Cond.code yX2_suits cX2_suits 3 (some .boolean) ∈ TB := mk_tb (ti_3 (List.mem_of_getElem? (i := 16) rfl)) rfl
theorem qq_1_11 : Cond.initialized "WrongHole$Lift" ∈ TB := mk_tb (ti_1 (List.mem_of_getElem? (i := 11) rfl)) rfl
theorem qq_3_13 : Cond.methodLink "WrongHole$Lift" 50 yX2_suits ∈ TB := mk_tb (ti_3 (List.mem_of_getElem? (i := 13) rfl)) rfl
theorem qq_3_14 : Cond.instanceMethod yX2_suits ∈ TB := mk_tb (ti_3 (List.mem_of_getElem? (i := 14) rfl)) rfl
theorem qq_3_15 : Cond.selects "WrongHole$Lift" yX2_suits yX2_suits ∈ TB := mk_tb (ti_3 (List.mem_of_getElem? (i := 15) rfl)) rfl
theorem dX2_canBe_28 : decode cX2_canBe 28 = .ok (.ifCond .eq 16, 3) := by decide +kernel
theorem dX2_canBe_31 : decode cX2_canBe 31 = .ok (.iload_n 1, 1) := by decide +kernel
theorem dX2_canBe_32 : decode cX2_canBe 32 = .ok (.iload_n 2, 1) := by decide +kernel
theorem dX2_canBe_33 : decode cX2_canBe 33 = .ok (.iload_n 3, 1) := by decide +kernel
theorem dX2_canBe_34 : decode cX2_canBe 34 = .ok (.invokestatic 72, 3) := by decide +kernel
theorem qq_3_17 : Cond.methodLink "WrongHole$Lift" 72 yX6_staysRising ∈ TB := mk_tb (ti_3 (List.mem_of_getElem? (i := 17) rfl)) rfl
theorem dX2_canBe_37 : decode cX2_canBe 37 = .ok (.ifCond .eq 7, 3) := by decide +kernel
theorem dX2_canBe_40 : decode cX2_canBe 40 = .ok (.iconst 1, 1) := by decide +kernel
theorem dX2_canBe_41 : decode cX2_canBe 41 = .ok (.goto 4, 3) := by decide +kernel
set_option maxHeartbeats 4000000 in
set_option maxRecDepth 100000 in
theorem c_Lift_canBe (l : Launch) (D : va_G) (cs : Nat → ClassId) (hl0 : Nat) (lb : Int32) (lh : Int32) (lg : Int32) (lw : Int32) (lv : Int32) (lbs : Int32) (lti : Int32) (lts : Int32) (le : Int32) (lk : Int32) (la : Int32) (l0 : Nat) (l1 : Nat) (l2 : Nat) (l3 : Nat) (l4 : Nat) (l5 : Nat) (l6 : Nat) (l7 : Nat) (f0 : Nat → Int32) (f1 : Nat → Int32) (a : Int32) (b : Int32) (h : Int32) (r_lb : Rg 0 8 lb) (r_lh : Rg 0 8 lh) (r_le : Rg 0 6 le) (r_b : Rg 0 7 b) (r_h : Rg 0 7 h) : Met l yX2_canBe (Cond.code yX2_canBe cX2_canBe 4 (some .boolean) :: TB) (RM 2 0 0) (va_Pc [.ref hl0, .int a, .int b, .int h] (PRR D cs [(hl0, .inr (2, [.int lb, .int lh, .int lg, .int lw, .int lv, .int lbs, .int lti, .int lts, .int le, .int lk, .int la, .ref l0, .ref l1, .ref l2, .ref l3, .ref l4, .ref l5, .ref l6, .ref l7])), (l0, .inl ((cs 0), 8, .inl f0)), (l1, .inl ((cs 0), 8, .inl f1))])) (QP (fun v => ∃ x : Int32, v = .int x ∧ Rg 0 1 x)) 0 0 (fun _ => False) := by
  refine MER (y := yX2_canBe) (cc := cX2_canBe) (maxL := 4) (ret := (some .boolean)) (d := 2) (D := D) (cs := cs) (ws := [(hl0, .inr (2, [.int lb, .int lh, .int lg, .int lw, .int lv, .int lbs, .int lti, .int lts, .int le, .int lk, .int la, .ref l0, .ref l1, .ref l2, .ref l3, .ref l4, .ref l5, .ref l6, .ref l7])), (l0, .inl ((cs 0), 8, .inl f0)), (l1, .inl ((cs 0), 8, .inl f1))]) (av := [.ref hl0, .int a, .int b, .int h]) (Qc := QP (fun v => ∃ x : Int32, v = .int x ∧ Rg 0 1 x)) (by decide) (Nat.le_of_ble_eq_true rfl) ?_
  intro p e s m below meth c ls H hHe hx hb hr hml hown hts hlocks hP hK hN hl
  obtain ⟨locs, hlc⟩ : ∃ z : List Loc, z = [] := ⟨_, rfl⟩
  rw [← hlc]
  have hown : s.vm.findClass "WrongHole$Lift" = some m.cls := hown
  have hT : ∀ w ∈ TB, w.before ([.ref hl0, .int a, .int b, .int h] : List Value).toArray s = true := fun w h => hts w (List.mem_cons_of_mem _ h)
  have hl : lv_has ls 4 [(0, .ref hl0), (1, .int a), (2, .int b), (3, .int h)] := hl
  have hP : va_P D vwCl [(hl0, .inr (2, [.int lb, .int lh, .int lg, .int lw, .int lv, .int lbs, .int lti, .int lts, .int le, .int lk, .int la, .ref l0, .ref l1, .ref l2, .ref l3, .ref l4, .ref l5, .ref l6, .ref l7])), (l0, .inl ((cs 0), 8, .inl f0)), (l1, .inl ((cs 0), 8, .inl f1))] H := hP
  refine lv_iload_n hx hb dX2_canBe_0 rfl (lv_at hl 1 rfl) ?_
  have hPc := va_P.sub (ws' := []) hP [] rfl
  refine cl_P (W.runS (As := [.int a]) (rest := []) ⟨hx, hb, hml, hown, hts⟩ (c_Rows_in l D cs a) ⟨callB_of 1 hts (gd_C qq_2_230) rfl rfl rfl (hT _ qq_1_16) (hT _ qq_3_11) (by decide +kernel) (rm_R rfl rfl), (hT _ qq_2_229)⟩ (pq_S hPc hK hN) rfl rfl hl.1 rfl (lv_room (Nat.le_of_ble_eq_true rfl)) dX2_canBe_1 ⟨Nat.le_of_ble_eq_true rfl, Nat.le_of_ble_eq_true rfl⟩) (fun v9 hz_2 => ?_)
  obtain ⟨x_1, rfl, r_3⟩ := hz_2
  refine lv_iload_n hx hb dX2_canBe_4 rfl (lv_at hl 2 rfl) ?_
  refine lv_ishr hx hb dX2_canBe_5 ?_
  refine lv_topi (fun x_4 e_5 => ?_)
  have r_6 : Rg 0 255 x_4 := Rg.shrn e_5 r_3
  refine lv_iconst (v := 1) hx hb dX2_canBe_6 (by decide) ?_
  refine lv_iand hx hb dX2_canBe_7 ?_
  refine lv_topi (fun x_7 e_8 => ?_)
  have r_9 : Rg 0 1 x_7 := Rg.and e_8 (Rg.c (c := 1) (k := 1) rfl) (by decide)
  refine lv_if_ne (tgt := 44) hx hb dX2_canBe_8 (by decide) (fun c_10 => ?_) (fun c_10 => ?_)
  · have r_11 : Rg 1 1 x_7 := Rg.ne c_10 r_9 (Rg.c (c := 0) (k := 0) rfl) (by decide)
    refine lv_iconst (v := 0) hx hb dX2_canBe_44 (by decide) ?_
    exact W.zret (v := 0) (ty := .boolean) hx hb hr rfl (fun t9 ht9 hW9 => ⟨⟨_, rfl, _, rfl, (Rg.wk (lo2 := 0) (hi2 := 1) (Rg.c (c := 0) (k := 0) rfl) (by decide))⟩, ht9.trans hHe⟩) (fun _ h9 => by rw [hlc] at h9; exact absurd h9 List.not_mem_nil) dX2_canBe_45
  · have r_12 : Rg 0 0 x_7 := Rg.eq_l c_10 r_9 (Rg.c (c := 0) (k := 0) rfl) (by decide)
    refine lv_iload_n hx hb dX2_canBe_11 rfl (lv_at hl 1 rfl) ?_
    have hPc := va_P.sub (ws' := []) hP [] rfl
    refine cl_P (W.runS (As := [.int a]) (rest := []) ⟨hx, hb, hml, hown, hts⟩ (c_Rows_held l D cs a) ⟨callB_of 1 hts (gd_C qq_3_0) rfl rfl rfl (hT _ qq_1_16) (hT _ qq_3_12) (by decide +kernel) (rm_R rfl rfl), (hT _ qq_2_239)⟩ (pq_S hPc hK hN) rfl rfl hl.1 rfl (lv_room (Nat.le_of_ble_eq_true rfl)) dX2_canBe_12 ⟨Nat.le_of_ble_eq_true rfl, Nat.le_of_ble_eq_true rfl⟩) (fun v9 hz_38 => ?_)
    obtain ⟨x_37, rfl, r_39⟩ := hz_38
    refine lv_iload_n hx hb dX2_canBe_15 rfl (lv_at hl 3 rfl) ?_
    refine lv_ishr hx hb dX2_canBe_16 ?_
    refine lv_topi (fun x_40 e_41 => ?_)
    have r_42 : Rg 0 255 x_40 := Rg.shrn e_41 r_39
    refine lv_iconst (v := 1) hx hb dX2_canBe_17 (by decide) ?_
    refine lv_iand hx hb dX2_canBe_18 ?_
    refine lv_topi (fun x_43 e_44 => ?_)
    have r_45 : Rg 0 1 x_43 := Rg.and e_44 (Rg.c (c := 1) (k := 1) rfl) (by decide)
    refine lv_if_ne (tgt := 44) hx hb dX2_canBe_19 (by decide) (fun c_46 => ?_) (fun c_46 => ?_)
    · have r_47 : Rg 1 1 x_43 := Rg.ne c_46 r_45 (Rg.c (c := 0) (k := 0) rfl) (by decide)
      refine lv_iconst (v := 0) hx hb dX2_canBe_44 (by decide) ?_
      exact W.zret (v := 0) (ty := .boolean) hx hb hr rfl (fun t9 ht9 hW9 => ⟨⟨_, rfl, _, rfl, (Rg.wk (lo2 := 0) (hi2 := 1) (Rg.c (c := 0) (k := 0) rfl) (by decide))⟩, ht9.trans hHe⟩) (fun _ h9 => by rw [hlc] at h9; exact absurd h9 List.not_mem_nil) dX2_canBe_45
    · have r_48 : Rg 0 0 x_43 := Rg.eq_l c_46 r_45 (Rg.c (c := 0) (k := 0) rfl) (by decide)
      refine lv_aload_n hx hb dX2_canBe_22 rfl (lv_at hl 0 rfl) ?_
      refine lv_iload_n hx hb dX2_canBe_23 rfl (lv_at hl 2 rfl) ?_
      refine lv_iload_n hx hb dX2_canBe_24 rfl (lv_at hl 3 rfl) ?_
      have hPc := va_P.sub (ws' := [(hl0, .inr (2, [.int lb, .int lh, .int lg, .int lw, .int lv, .int lbs, .int lti, .int lts, .int le, .int lk, .int la, .ref l0, .ref l1, .ref l2, .ref l3, .ref l4, .ref l5, .ref l6, .ref l7])), (l0, .inl ((cs 0), 8, .inl f0)), (l1, .inl ((cs 0), 8, .inl f1))]) hP [0, 1, 2] rfl
      refine cl_P (W.runV (As := [.int b, .int h]) (rest := []) ⟨hx, hb, hml, hown, hts⟩ (c_Lift_suits l D cs hl0 lb lh lg lw lv lbs lti lts le lk la l0 l1 l2 l3 l4 l5 l6 l7 f0 f1 b h r_lb r_lh r_le r_b r_h) ⟨callB_of 2 hts (gd_C qq_3_16) rfl rfl rfl (hT _ qq_1_11) (hT _ qq_3_13) (by decide +kernel) (rm_R rfl rfl), (hT _ qq_3_14), (hT _ qq_3_15)⟩ (pq_V hPc hK hN (ci := 2) (q0 := 0) rfl rfl) rfl rfl hl.1 rfl (lv_room (Nat.le_of_ble_eq_true rfl)) dX2_canBe_25 ⟨Nat.le_of_ble_eq_true rfl, Nat.le_of_ble_eq_true rfl⟩) (fun v9 hz_62 => ?_)
      obtain ⟨x_61, rfl, r_63⟩ := hz_62
      refine lv_if_eq (tgt := 44) hx hb dX2_canBe_28 (by decide) (fun c_64 => ?_) (fun c_64 => ?_)
      · have r_65 : Rg 0 0 x_61 := Rg.eq_l c_64 r_63 (Rg.c (c := 0) (k := 0) rfl) (by decide)
        refine lv_iconst (v := 0) hx hb dX2_canBe_44 (by decide) ?_
        exact W.zret (v := 0) (ty := .boolean) hx hb hr rfl (fun t9 ht9 hW9 => ⟨⟨_, rfl, _, rfl, (Rg.wk (lo2 := 0) (hi2 := 1) (Rg.c (c := 0) (k := 0) rfl) (by decide))⟩, ht9.trans hHe⟩) (fun _ h9 => by rw [hlc] at h9; exact absurd h9 List.not_mem_nil) dX2_canBe_45
      · have r_66 : Rg 1 1 x_61 := Rg.ne c_64 r_63 (Rg.c (c := 0) (k := 0) rfl) (by decide)
        refine lv_iload_n hx hb dX2_canBe_31 rfl (lv_at hl 1 rfl) ?_
        refine lv_iload_n hx hb dX2_canBe_32 rfl (lv_at hl 2 rfl) ?_
        refine lv_iload_n hx hb dX2_canBe_33 rfl (lv_at hl 3 rfl) ?_
        have hPc := va_P.sub (ws' := []) hP [] rfl
        refine cl_P (W.runS (As := [.int a, .int b, .int h]) (rest := []) ⟨hx, hb, hml, hown, hts⟩ (c_Rows_staysRising l D cs a b h) ⟨callB_of 3 hts (gd_C qq_3_19) rfl rfl rfl (hT _ qq_1_16) (hT _ qq_3_17) (by decide +kernel) (rm_R rfl rfl), (hT _ qq_3_18)⟩ (pq_S hPc hK hN) rfl rfl hl.1 rfl (lv_room (Nat.le_of_ble_eq_true rfl)) dX2_canBe_34 ⟨Nat.le_of_ble_eq_true rfl, Nat.le_of_ble_eq_true rfl⟩) (fun v9 hz_74 => ?_)
        obtain ⟨x_73, rfl, r_75⟩ := hz_74
        refine lv_if_eq (tgt := 44) hx hb dX2_canBe_37 (by decide) (fun c_76 => ?_) (fun c_76 => ?_)
        · have r_77 : Rg 0 0 x_73 := Rg.eq_l c_76 r_75 (Rg.c (c := 0) (k := 0) rfl) (by decide)
          refine lv_iconst (v := 0) hx hb dX2_canBe_44 (by decide) ?_
          exact W.zret (v := 0) (ty := .boolean) hx hb hr rfl (fun t9 ht9 hW9 => ⟨⟨_, rfl, _, rfl, (Rg.wk (lo2 := 0) (hi2 := 1) (Rg.c (c := 0) (k := 0) rfl) (by decide))⟩, ht9.trans hHe⟩) (fun _ h9 => by rw [hlc] at h9; exact absurd h9 List.not_mem_nil) dX2_canBe_45
        · have r_78 : Rg 1 1 x_73 := Rg.ne c_76 r_75 (Rg.c (c := 0) (k := 0) rfl) (by decide)
          refine lv_iconst (v := 1) hx hb dX2_canBe_40 (by decide) ?_
          refine lv_goto (tgt := 45) hx hb dX2_canBe_41 (by decide) ?_
          exact W.zret (v := 1) (ty := .boolean) hx hb hr rfl (fun t9 ht9 hW9 => ⟨⟨_, rfl, _, rfl, (Rg.wk (lo2 := 0) (hi2 := 1) (Rg.c (c := 1) (k := 1) rfl) (by decide))⟩, ht9.trans hHe⟩) (fun _ h9 => by rw [hlc] at h9; exact absurd h9 List.not_mem_nil) dX2_canBe_45
theorem dX2_longestOpen_0 : decode cX2_longestOpen 0 = .ok (.iconst 1, 1) := by decide +kernel
theorem dX2_longestOpen_1 : decode cX2_longestOpen 1 = .ok (.aload_n 0, 1) := by decide +kernel
theorem dX2_longestOpen_2 : decode cX2_longestOpen 2 = .ok (.getfield 44, 3) := by decide +kernel
theorem dX2_longestOpen_5 : decode cX2_longestOpen 5 = .ok (.ishl, 1) := by decide +kernel
theorem dX2_longestOpen_6 : decode cX2_longestOpen 6 = .ok (.iconst 1, 1) := by decide +kernel
theorem dX2_longestOpen_7 : decode cX2_longestOpen 7 = .ok (.isub, 1) := by decide +kernel
theorem dX2_longestOpen_8 : decode cX2_longestOpen 8 = .ok (.iload_n 1, 1) := by decide +kernel
theorem dX2_longestOpen_9 : decode cX2_longestOpen 9 = .ok (.iconst (-1), 1) := by decide +kernel
theorem dX2_longestOpen_10 : decode cX2_longestOpen 10 = .ok (.ixor, 1) := by decide +kernel
theorem dX2_longestOpen_11 : decode cX2_longestOpen 11 = .ok (.iand, 1) := by decide +kernel
theorem dX2_longestOpen_12 : decode cX2_longestOpen 12 = .ok (.istore_n 2, 1) := by decide +kernel
theorem dX2_longestOpen_13 : decode cX2_longestOpen 13 = .ok (.iconst 0, 1) := by decide +kernel
theorem dX2_longestOpen_14 : decode cX2_longestOpen 14 = .ok (.istore_n 3, 1) := by decide +kernel
theorem dX2_longestOpen_15 : decode cX2_longestOpen 15 = .ok (.iconst 0, 1) := by decide +kernel
theorem dX2_longestOpen_16 : decode cX2_longestOpen 16 = .ok (.istore 4, 2) := by decide +kernel
theorem dX2_longestOpen_18 : decode cX2_longestOpen 18 = .ok (.iload 4, 2) := by decide +kernel
theorem dX2_longestOpen_20 : decode cX2_longestOpen 20 = .ok (.bipush 8, 2) := by decide +kernel
theorem dX2_longestOpen_22 : decode cX2_longestOpen 22 = .ok (.if_icmp .ge 22, 3) := by decide +kernel
theorem dX2_longestOpen_44 : decode cX2_longestOpen 44 = .ok (.iload_n 3, 1) := by decide +kernel
theorem dX2_longestOpen_45 : decode cX2_longestOpen 45 = .ok (.ireturn, 1) := by decide +kernel
theorem dX2_longestOpen_25 : decode cX2_longestOpen 25 = .ok (.iload_n 2, 1) := by decide +kernel
theorem dX2_longestOpen_26 : decode cX2_longestOpen 26 = .ok (.ifCond .eq 18, 3) := by decide +kernel
theorem dX2_longestOpen_29 : decode cX2_longestOpen 29 = .ok (.iload_n 2, 1) := by decide +kernel
theorem dX2_longestOpen_30 : decode cX2_longestOpen 30 = .ok (.iload_n 2, 1) := by decide +kernel
theorem dX2_longestOpen_31 : decode cX2_longestOpen 31 = .ok (.iconst 1, 1) := by decide +kernel
theorem dX2_longestOpen_32 : decode cX2_longestOpen 32 = .ok (.ishl, 1) := by decide +kernel
theorem dX2_longestOpen_33 : decode cX2_longestOpen 33 = .ok (.iand, 1) := by decide +kernel
theorem dX2_longestOpen_34 : decode cX2_longestOpen 34 = .ok (.istore_n 2, 1) := by decide +kernel
theorem dX2_longestOpen_35 : decode cX2_longestOpen 35 = .ok (.iinc 3 1, 3) := by decide +kernel
theorem dX2_longestOpen_38 : decode cX2_longestOpen 38 = .ok (.iinc 4 1, 3) := by decide +kernel
theorem dX2_longestOpen_41 : decode cX2_longestOpen 41 = .ok (.goto (-23), 3) := by decide +kernel
set_option maxHeartbeats 4000000 in
set_option maxRecDepth 100000 in
theorem c_Lift_longestOpen (l : Launch) (D : va_G) (cs : Nat → ClassId) (hl0 : Nat) (lb : Int32) (lh : Int32) (lg : Int32) (lw : Int32) (lv : Int32) (lbs : Int32) (lti : Int32) (lts : Int32) (le : Int32) (lk : Int32) (la : Int32) (l0 : Nat) (l1 : Nat) (l2 : Nat) (l3 : Nat) (l4 : Nat) (l5 : Nat) (l6 : Nat) (l7 : Nat) (a : Int32) (r_lb : Rg 0 8 lb) (r_lh : Rg 0 8 lh) (r_le : Rg 0 6 le) : Met l yX2_longestOpen (Cond.code yX2_longestOpen cX2_longestOpen 5 (some .int) :: TB) (RM 0 0 0) (va_Pc [.ref hl0, .int a] (PRR D cs [(hl0, .inr (2, [.int lb, .int lh, .int lg, .int lw, .int lv, .int lbs, .int lti, .int lts, .int le, .int lk, .int la, .ref l0, .ref l1, .ref l2, .ref l3, .ref l4, .ref l5, .ref l6, .ref l7]))])) (QP (fun v => ∃ x : Int32, v = .int x)) 0 0 (fun _ => False) := by
  refine MER (y := yX2_longestOpen) (cc := cX2_longestOpen) (maxL := 5) (ret := (some .int)) (d := 0) (D := D) (cs := cs) (ws := [(hl0, .inr (2, [.int lb, .int lh, .int lg, .int lw, .int lv, .int lbs, .int lti, .int lts, .int le, .int lk, .int la, .ref l0, .ref l1, .ref l2, .ref l3, .ref l4, .ref l5, .ref l6, .ref l7]))]) (av := [.ref hl0, .int a]) (Qc := QP (fun v => ∃ x : Int32, v = .int x)) (by decide) (Nat.le_of_ble_eq_true rfl) ?_
  intro p e s m below meth c ls H hHe hx hb hr hml hown hts hlocks hP hK hN hl
  obtain ⟨locs, hlc⟩ : ∃ z : List Loc, z = [] := ⟨_, rfl⟩
  rw [← hlc]
  have hown : s.vm.findClass "WrongHole$Lift" = some m.cls := hown
  have hT : ∀ w ∈ TB, w.before ([.ref hl0, .int a] : List Value).toArray s = true := fun w h => hts w (List.mem_cons_of_mem _ h)
  have hl : lv_has ls 5 [(0, .ref hl0), (1, .int a)] := hl
  have hP : va_P D vwCl [(hl0, .inr (2, [.int lb, .int lh, .int lg, .int lw, .int lv, .int lbs, .int lti, .int lts, .int le, .int lk, .int la, .ref l0, .ref l1, .ref l2, .ref l3, .ref l4, .ref l5, .ref l6, .ref l7]))] H := hP
  refine lv_iconst (v := 1) hx hb dX2_longestOpen_0 (by decide) ?_
  refine lv_aload_n hx hb dX2_longestOpen_1 rfl (lv_at hl 0 rfl) ?_
  refine va_get (D := D) (ci := 2) (v := .int lb) (C := "WrongHole$Lift") (T := TX2) (N := 19) hx hb hts (iq_RX2 _) hown hK hP 0 rfl rfl 0 (by decide) (hT _ qq_2_29) (fun _ h9 => h9) rfl dX2_longestOpen_2 ?_
  refine lv_ishl hx hb dX2_longestOpen_5 ?_
  refine lv_topi (fun x_1 e_2 => ?_)
  have r_3 : Rg 0 256 x_1 := Rg.shl (ha := 1) (k := 8) e_2 (Rg.wk (Rg.c (c := 1) (k := 1) rfl) (by decide)) (Rg.wk r_lb (by decide)) (by decide) (by decide)
  refine lv_iconst (v := 1) hx hb dX2_longestOpen_6 (by decide) ?_
  refine lv_isub hx hb dX2_longestOpen_7 ?_
  refine lv_topi (fun x_4 e_5 => ?_)
  have r_6 : Rg (-1) 255 x_4 := Rg.sub e_5 r_3 (Rg.c (c := 1) (k := 1) rfl) (by decide)
  refine lv_iload_n hx hb dX2_longestOpen_8 rfl (lv_at hl 1 rfl) ?_
  refine lv_iconst (v := (-1)) hx hb dX2_longestOpen_9 (by decide) ?_
  refine lv_ixor hx hb dX2_longestOpen_10 ?_
  refine lv_topi (fun x_7 e_8 => ?_)
  refine lv_iand hx hb dX2_longestOpen_11 ?_
  refine lv_topi (fun x_9 e_10 => ?_)
  refine lv_istore_n (lv' := [(2, .int x_9), (0, .ref hl0), (1, .int a)]) hx hb dX2_longestOpen_12 rfl hl (by decide) rfl (fun ls hl => ?_)
  refine lv_iconst (v := 0) hx hb dX2_longestOpen_13 (by decide) ?_
  refine lv_istore_n (lv' := [(3, .int 0), (2, .int x_9), (0, .ref hl0), (1, .int a)]) hx hb dX2_longestOpen_14 rfl hl (by decide) rfl (fun ls hl => ?_)
  refine lv_iconst (v := 0) hx hb dX2_longestOpen_15 (by decide) ?_
  refine lv_istore (lv' := [(4, .int 0), (3, .int 0), (2, .int x_9), (0, .ref hl0), (1, .int a)]) hx hb dX2_longestOpen_16 hl (by decide) rfl (fun ls hl => ?_)
  refine w_wh (σ := (Int32) × (Int32) × (Int32)) (fun x9 H locs ls => match x9 with | (v_22, v_23, v_24) => Rg 0 8 v_22 ∧ H = s.heap ∧ locs = [] ∧ va_P D vwCl [(hl0, .inr (2, [.int lb, .int lh, .int lg, .int lw, .int lv, .int lbs, .int lti, .int lts, .int le, .int lk, .int la, .ref l0, .ref l1, .ref l2, .ref l3, .ref l4, .ref l5, .ref l6, .ref l7]))] H ∧ lv_has ls 5 [(4, .int v_22), (3, .int v_23), (2, .int v_24), (0, .ref hl0), (1, .int a)]) (fun x9 => match x9 with | (v_22, v_23, v_24) => (8 - Int32.toInt v_22).toNat) 18 ?_ (0, 0, x_9) H locs ls ⟨(Rg.wk (lo2 := 0) (hi2 := 8) (Rg.c (c := 0) (k := 0) rfl) (by decide)), hHe, hlc, hP, lv_sub hl [0, 1, 2, 3, 4] rfl⟩
  rintro ⟨v_22, v_23, v_24⟩ H locs ls ⟨r_339, hHe, hlc, hP, hl⟩ ih_338
  refine lv_iload hx hb dX2_longestOpen_18 (lv_at hl 0 rfl) ?_
  refine lv_bipush (v := 8) hx hb dX2_longestOpen_20 (by decide) ?_
  refine lv_icmp_ge (tgt := 44) hx hb dX2_longestOpen_22 (by decide) (fun c_340 => ?_) (fun c_340 => ?_)
  · have r_341 : Rg 8 8 v_22 := Rg.le_r c_340 (Rg.c (c := 8) (k := 8) rfl) r_339 (by decide)
    refine lv_iload_n hx hb dX2_longestOpen_44 rfl (lv_at hl 1 rfl) ?_
    exact W.iret (v := v_23) hx hb hr (fun t9 ht9 hW9 => ⟨⟨_, rfl, _, rfl⟩, ht9.trans hHe⟩) (fun _ h9 => by rw [hlc] at h9; exact absurd h9 List.not_mem_nil) dX2_longestOpen_45
  · have r_342 : Rg 0 7 v_22 := Rg.lt_l (nle_lt c_340) r_339 (Rg.c (c := 8) (k := 8) rfl) (by decide)
    refine lv_iload_n hx hb dX2_longestOpen_25 rfl (lv_at hl 2 rfl) ?_
    refine lv_if_eq (tgt := 44) hx hb dX2_longestOpen_26 (by decide) (fun c_354 => ?_) (fun c_354 => ?_)
    · have r_355 : Rg 0 0 v_24 := Rg.eq_l c_354 (Rg.top v_24) (Rg.c (c := 0) (k := 0) rfl) (by decide)
      refine lv_iload_n hx hb dX2_longestOpen_44 rfl (lv_at hl 1 rfl) ?_
      exact W.iret (v := v_23) hx hb hr (fun t9 ht9 hW9 => ⟨⟨_, rfl, _, rfl⟩, ht9.trans hHe⟩) (fun _ h9 => by rw [hlc] at h9; exact absurd h9 List.not_mem_nil) dX2_longestOpen_45
    · refine lv_iload_n hx hb dX2_longestOpen_29 rfl (lv_at hl 2 rfl) ?_
      refine lv_iload_n hx hb dX2_longestOpen_30 rfl (lv_at hl 2 rfl) ?_
      refine lv_iconst (v := 1) hx hb dX2_longestOpen_31 (by decide) ?_
      refine lv_ishl hx hb dX2_longestOpen_32 ?_
      refine lv_topi (fun x_365 e_366 => ?_)
      refine lv_iand hx hb dX2_longestOpen_33 ?_
      refine lv_topi (fun x_367 e_368 => ?_)
      refine lv_istore_n (lv' := [(2, .int x_367), (4, .int v_22), (3, .int v_23), (0, .ref hl0), (1, .int a)]) hx hb dX2_longestOpen_34 rfl hl (by decide) rfl (fun ls hl => ?_)
      obtain ⟨x_369, e_370⟩ : ∃ z : Int32, z = v_23 + Int32.ofInt 1 := ⟨_, rfl⟩
      refine lv_iinc (v := x_369) (lv' := [(3, .int x_369), (2, .int x_367), (4, .int v_22), (0, .ref hl0), (1, .int a)]) hx hb dX2_longestOpen_35 hl (k := 2) rfl (e_370.symm) (by decide) rfl (fun ls hl => ?_)
      obtain ⟨x_371, e_372⟩ : ∃ z : Int32, z = v_22 + Int32.ofInt 1 := ⟨_, rfl⟩
      have r_373 : Rg 1 8 x_371 := Rg.add e_372 r_342 (Rg.c (c := Int32.ofInt 1) (k := 1) rfl) (by decide)
      refine lv_iinc (v := x_371) (lv' := [(4, .int x_371), (3, .int x_369), (2, .int x_367), (0, .ref hl0), (1, .int a)]) hx hb dX2_longestOpen_38 hl (k := 2) rfl (e_372.symm) (by decide) rfl (fun ls hl => ?_)
      refine lv_goto (tgt := 18) hx hb dX2_longestOpen_41 (by decide) ?_
      exact ih_338 (x_371, x_369, x_367) _ _ _ ⟨(Rg.wk (lo2 := 0) (hi2 := 8) r_373 (by decide)), hHe, hlc, hP, lv_sub hl [0, 1, 2, 3, 4] rfl⟩ (ms_up e_372 r_342 (Rg.c (c := Int32.ofInt 1) (k := 1) rfl) (by decide))
theorem dX2_lawful_0 : decode cX2_lawful 0 = .ok (.aload_n 0, 1) := by decide +kernel
theorem dX2_lawful_1 : decode cX2_lawful 1 = .ok (.getfield 83, 3) := by decide +kernel
theorem qq_2_47 : Cond.fieldLink "WrongHole$Lift" 83 "WrongHole$Lift" "never" "I" ∈ TB := mk_tb (ti_2 (List.mem_of_getElem? (i := 47) rfl)) rfl
theorem dX2_lawful_4 : decode cX2_lawful 4 = .ok (.iload_n 1, 1) := by decide +kernel
theorem dX2_lawful_5 : decode cX2_lawful 5 = .ok (.iconst (-1), 1) := by decide +kernel
theorem dX2_lawful_6 : decode cX2_lawful 6 = .ok (.ixor, 1) := by decide +kernel
theorem dX2_lawful_7 : decode cX2_lawful 7 = .ok (.iand, 1) := by decide +kernel
theorem dX2_lawful_8 : decode cX2_lawful 8 = .ok (.ifCond .ne 19, 3) := by decide +kernel
theorem dX2_lawful_27 : decode cX2_lawful 27 = .ok (.iconst 0, 1) := by decide +kernel
theorem dX2_lawful_28 : decode cX2_lawful 28 = .ok (.ireturn, 1) := by decide +kernel
theorem dX2_lawful_11 : decode cX2_lawful 11 = .ok (.aload_n 0, 1) := by decide +kernel
theorem dX2_lawful_12 : decode cX2_lawful 12 = .ok (.iload_n 1, 1) := by decide +kernel
theorem dX2_lawful_13 : decode cX2_lawful 13 = .ok (.invokevirtual 86, 3) := by decide +kernel
theorem qq_3_211 : Cond.code yX2_longestOpen cX2_longestOpen 5 (some .int) ∈ TB := mk_tb (ti_3 (List.mem_of_getElem? (i := 211) rfl)) rfl
theorem qq_3_216 : Cond.methodLink "WrongHole$Lift" 86 yX2_longestOpen ∈ TB := mk_tb (ti_3 (List.mem_of_getElem? (i := 216) rfl)) rfl
theorem qq_3_209 : Cond.instanceMethod yX2_longestOpen ∈ TB := mk_tb (ti_3 (List.mem_of_getElem? (i := 209) rfl)) rfl
theorem qq_3_210 : Cond.selects "WrongHole$Lift" yX2_longestOpen yX2_longestOpen ∈ TB := mk_tb (ti_3 (List.mem_of_getElem? (i := 210) rfl)) rfl
theorem dX2_lawful_16 : decode cX2_lawful 16 = .ok (.aload_n 0, 1) := by decide +kernel
theorem dX2_lawful_17 : decode cX2_lawful 17 = .ok (.getfield 40, 3) := by decide +kernel
theorem qq_2_49 : Cond.fieldLink "WrongHole$Lift" 40 "WrongHole$Lift" "beside" "I" ∈ TB := mk_tb (ti_2 (List.mem_of_getElem? (i := 49) rfl)) rfl
theorem dX2_lawful_20 : decode cX2_lawful 20 = .ok (.if_icmp .gt 7, 3) := by decide +kernel
theorem dX2_lawful_23 : decode cX2_lawful 23 = .ok (.iconst 1, 1) := by decide +kernel
theorem dX2_lawful_24 : decode cX2_lawful 24 = .ok (.goto 4, 3) := by decide +kernel
set_option maxHeartbeats 4000000 in
set_option maxRecDepth 100000 in
theorem c_Lift_lawful (l : Launch) (D : va_G) (cs : Nat → ClassId) (hl0 : Nat) (lb : Int32) (lh : Int32) (lg : Int32) (lw : Int32) (lv : Int32) (lbs : Int32) (lti : Int32) (lts : Int32) (le : Int32) (lk : Int32) (la : Int32) (l0 : Nat) (l1 : Nat) (l2 : Nat) (l3 : Nat) (l4 : Nat) (l5 : Nat) (l6 : Nat) (l7 : Nat) (a : Int32) (r_lb : Rg 0 8 lb) (r_lh : Rg 0 8 lh) (r_le : Rg 0 6 le) : Met l yX2_lawful (Cond.code yX2_lawful cX2_lawful 2 (some .boolean) :: TB) (RM 1 0 0) (va_Pc [.ref hl0, .int a] (PRR D cs [(hl0, .inr (2, [.int lb, .int lh, .int lg, .int lw, .int lv, .int lbs, .int lti, .int lts, .int le, .int lk, .int la, .ref l0, .ref l1, .ref l2, .ref l3, .ref l4, .ref l5, .ref l6, .ref l7]))])) (QP (fun v => ∃ x : Int32, v = .int x ∧ Rg 0 1 x)) 0 0 (fun _ => False) := by
  refine MER (y := yX2_lawful) (cc := cX2_lawful) (maxL := 2) (ret := (some .boolean)) (d := 1) (D := D) (cs := cs) (ws := [(hl0, .inr (2, [.int lb, .int lh, .int lg, .int lw, .int lv, .int lbs, .int lti, .int lts, .int le, .int lk, .int la, .ref l0, .ref l1, .ref l2, .ref l3, .ref l4, .ref l5, .ref l6, .ref l7]))]) (av := [.ref hl0, .int a]) (Qc := QP (fun v => ∃ x : Int32, v = .int x ∧ Rg 0 1 x)) (by decide) (Nat.le_of_ble_eq_true rfl) ?_
  intro p e s m below meth c ls H hHe hx hb hr hml hown hts hlocks hP hK hN hl
  obtain ⟨locs, hlc⟩ : ∃ z : List Loc, z = [] := ⟨_, rfl⟩
  rw [← hlc]
  have hown : s.vm.findClass "WrongHole$Lift" = some m.cls := hown
  have hT : ∀ w ∈ TB, w.before ([.ref hl0, .int a] : List Value).toArray s = true := fun w h => hts w (List.mem_cons_of_mem _ h)
  have hl : lv_has ls 2 [(0, .ref hl0), (1, .int a)] := hl
  have hP : va_P D vwCl [(hl0, .inr (2, [.int lb, .int lh, .int lg, .int lw, .int lv, .int lbs, .int lti, .int lts, .int le, .int lk, .int la, .ref l0, .ref l1, .ref l2, .ref l3, .ref l4, .ref l5, .ref l6, .ref l7]))] H := hP
  refine lv_aload_n hx hb dX2_lawful_0 rfl (lv_at hl 0 rfl) ?_
  refine va_get (D := D) (ci := 2) (v := .int lv) (C := "WrongHole$Lift") (T := TX2) (N := 19) hx hb hts (iq_RX2 _) hown hK hP 0 rfl rfl 4 (by decide) (hT _ qq_2_47) (fun _ h9 => h9) rfl dX2_lawful_1 ?_
  refine lv_iload_n hx hb dX2_lawful_4 rfl (lv_at hl 1 rfl) ?_
  refine lv_iconst (v := (-1)) hx hb dX2_lawful_5 (by decide) ?_
  refine lv_ixor hx hb dX2_lawful_6 ?_
  refine lv_topi (fun x_1 e_2 => ?_)
  refine lv_iand hx hb dX2_lawful_7 ?_
  refine lv_topi (fun x_3 e_4 => ?_)
  refine lv_if_ne (tgt := 27) hx hb dX2_lawful_8 (by decide) (fun c_5 => ?_) (fun c_5 => ?_)
  · refine lv_iconst (v := 0) hx hb dX2_lawful_27 (by decide) ?_
    exact W.zret (v := 0) (ty := .boolean) hx hb hr rfl (fun t9 ht9 hW9 => ⟨⟨_, rfl, _, rfl, (Rg.wk (lo2 := 0) (hi2 := 1) (Rg.c (c := 0) (k := 0) rfl) (by decide))⟩, ht9.trans hHe⟩) (fun _ h9 => by rw [hlc] at h9; exact absurd h9 List.not_mem_nil) dX2_lawful_28
  · have r_6 : Rg 0 0 x_3 := Rg.eq_l c_5 (Rg.top x_3) (Rg.c (c := 0) (k := 0) rfl) (by decide)
    refine lv_aload_n hx hb dX2_lawful_11 rfl (lv_at hl 0 rfl) ?_
    refine lv_iload_n hx hb dX2_lawful_12 rfl (lv_at hl 1 rfl) ?_
    have hPc := va_P.sub (ws' := [(hl0, .inr (2, [.int lb, .int lh, .int lg, .int lw, .int lv, .int lbs, .int lti, .int lts, .int le, .int lk, .int la, .ref l0, .ref l1, .ref l2, .ref l3, .ref l4, .ref l5, .ref l6, .ref l7]))]) hP [0] rfl
    refine cl_P (W.runV (As := [.int a]) (rest := []) ⟨hx, hb, hml, hown, hts⟩ (c_Lift_longestOpen l D cs hl0 lb lh lg lw lv lbs lti lts le lk la l0 l1 l2 l3 l4 l5 l6 l7 a r_lb r_lh r_le) ⟨callB_of 1 hts (gd_C qq_3_211) rfl rfl rfl (hT _ qq_1_11) (hT _ qq_3_216) (by decide +kernel) (rm_R rfl rfl), (hT _ qq_3_209), (hT _ qq_3_210)⟩ (pq_V hPc hK hN (ci := 2) (q0 := 0) rfl rfl) rfl rfl hl.1 rfl (lv_room (Nat.le_of_ble_eq_true rfl)) dX2_lawful_13 ⟨Nat.le_of_ble_eq_true rfl, Nat.le_of_ble_eq_true rfl⟩) (fun v9 hz_14 => ?_)
    obtain ⟨x_13, rfl⟩ := hz_14
    refine lv_aload_n hx hb dX2_lawful_16 rfl (lv_at hl 0 rfl) ?_
    refine va_get (D := D) (ci := 2) (v := .int lbs) (C := "WrongHole$Lift") (T := TX2) (N := 19) hx hb hts (iq_RX2 _) hown hK hP 0 rfl rfl 5 (by decide) (hT _ qq_2_49) (fun _ h9 => h9) rfl dX2_lawful_17 ?_
    refine lv_icmp_gt (tgt := 27) hx hb dX2_lawful_20 (by decide) (fun c_16 => ?_) (fun c_16 => ?_)
    · have r_17 : Rg (-2147483648) 2147483646 lbs := Rg.lt_l c_16 (Rg.top lbs) (Rg.top x_13) (by decide)
      have r_18 : Rg (-2147483647) 2147483647 x_13 := Rg.lt_r c_16 (Rg.top lbs) (Rg.top x_13) (by decide)
      refine lv_iconst (v := 0) hx hb dX2_lawful_27 (by decide) ?_
      exact W.zret (v := 0) (ty := .boolean) hx hb hr rfl (fun t9 ht9 hW9 => ⟨⟨_, rfl, _, rfl, (Rg.wk (lo2 := 0) (hi2 := 1) (Rg.c (c := 0) (k := 0) rfl) (by decide))⟩, ht9.trans hHe⟩) (fun _ h9 => by rw [hlc] at h9; exact absurd h9 List.not_mem_nil) dX2_lawful_28
    · refine lv_iconst (v := 1) hx hb dX2_lawful_23 (by decide) ?_
      refine lv_goto (tgt := 28) hx hb dX2_lawful_24 (by decide) ?_
      exact W.zret (v := 1) (ty := .boolean) hx hb hr rfl (fun t9 ht9 hW9 => ⟨⟨_, rfl, _, rfl, (Rg.wk (lo2 := 0) (hi2 := 1) (Rg.c (c := 1) (k := 1) rfl) (by decide))⟩, ht9.trans hHe⟩) (fun _ h9 => by rw [hlc] at h9; exact absurd h9 List.not_mem_nil) dX2_lawful_28
theorem dX2_mayUndo_0 : decode cX2_mayUndo 0 = .ok (.iload_n 1, 1) := by decide +kernel
theorem dX2_mayUndo_1 : decode cX2_mayUndo 1 = .ok (.invokestatic 63, 3) := by decide +kernel
theorem dX2_mayUndo_4 : decode cX2_mayUndo 4 = .ok (.istore_n 3, 1) := by decide +kernel
theorem dX2_mayUndo_5 : decode cX2_mayUndo 5 = .ok (.iload_n 3, 1) := by decide +kernel
theorem dX2_mayUndo_6 : decode cX2_mayUndo 6 = .ok (.iload_n 2, 1) := by decide +kernel
theorem dX2_mayUndo_7 : decode cX2_mayUndo 7 = .ok (.ishr, 1) := by decide +kernel
theorem dX2_mayUndo_8 : decode cX2_mayUndo 8 = .ok (.iconst 1, 1) := by decide +kernel
theorem dX2_mayUndo_9 : decode cX2_mayUndo 9 = .ok (.iand, 1) := by decide +kernel
theorem dX2_mayUndo_10 : decode cX2_mayUndo 10 = .ok (.ifCond .eq 21, 3) := by decide +kernel
theorem dX2_mayUndo_31 : decode cX2_mayUndo 31 = .ok (.iconst 0, 1) := by decide +kernel
theorem dX2_mayUndo_32 : decode cX2_mayUndo 32 = .ok (.ireturn, 1) := by decide +kernel
theorem dX2_mayUndo_13 : decode cX2_mayUndo 13 = .ok (.aload_n 0, 1) := by decide +kernel
theorem dX2_mayUndo_14 : decode cX2_mayUndo 14 = .ok (.iload_n 3, 1) := by decide +kernel
theorem dX2_mayUndo_15 : decode cX2_mayUndo 15 = .ok (.iconst 1, 1) := by decide +kernel
theorem dX2_mayUndo_16 : decode cX2_mayUndo 16 = .ok (.iload_n 2, 1) := by decide +kernel
theorem dX2_mayUndo_17 : decode cX2_mayUndo 17 = .ok (.ishl, 1) := by decide +kernel
theorem dX2_mayUndo_18 : decode cX2_mayUndo 18 = .ok (.iconst (-1), 1) := by decide +kernel
theorem dX2_mayUndo_19 : decode cX2_mayUndo 19 = .ok (.ixor, 1) := by decide +kernel
theorem dX2_mayUndo_20 : decode cX2_mayUndo 20 = .ok (.iand, 1) := by decide +kernel
theorem dX2_mayUndo_21 : decode cX2_mayUndo 21 = .ok (.invokevirtual 76, 3) := by decide +kernel
theorem qq_3_215 : Cond.code yX2_lawful cX2_lawful 2 (some .boolean) ∈ TB := mk_tb (ti_3 (List.mem_of_getElem? (i := 215) rfl)) rfl
theorem qq_3_239 : Cond.methodLink "WrongHole$Lift" 76 yX2_lawful ∈ TB := mk_tb (ti_3 (List.mem_of_getElem? (i := 239) rfl)) rfl
theorem qq_3_213 : Cond.instanceMethod yX2_lawful ∈ TB := mk_tb (ti_3 (List.mem_of_getElem? (i := 213) rfl)) rfl
theorem qq_3_214 : Cond.selects "WrongHole$Lift" yX2_lawful yX2_lawful ∈ TB := mk_tb (ti_3 (List.mem_of_getElem? (i := 214) rfl)) rfl
theorem dX2_mayUndo_24 : decode cX2_mayUndo 24 = .ok (.ifCond .eq 7, 3) := by decide +kernel
theorem dX2_mayUndo_27 : decode cX2_mayUndo 27 = .ok (.iconst 1, 1) := by decide +kernel
theorem dX2_mayUndo_28 : decode cX2_mayUndo 28 = .ok (.goto 4, 3) := by decide +kernel
set_option maxHeartbeats 4000000 in
set_option maxRecDepth 100000 in
theorem c_Lift_mayUndo (l : Launch) (D : va_G) (cs : Nat → ClassId) (hl0 : Nat) (lb : Int32) (lh : Int32) (lg : Int32) (lw : Int32) (lv : Int32) (lbs : Int32) (lti : Int32) (lts : Int32) (le : Int32) (lk : Int32) (la : Int32) (l0 : Nat) (l1 : Nat) (l2 : Nat) (l3 : Nat) (l4 : Nat) (l5 : Nat) (l6 : Nat) (l7 : Nat) (a : Int32) (b : Int32) (r_lb : Rg 0 8 lb) (r_lh : Rg 0 8 lh) (r_le : Rg 0 6 le) (r_b : Rg 0 7 b) : Met l yX2_mayUndo (Cond.code yX2_mayUndo cX2_mayUndo 4 (some .boolean) :: TB) (RM 2 0 0) (va_Pc [.ref hl0, .int a, .int b] (PRR D cs [(hl0, .inr (2, [.int lb, .int lh, .int lg, .int lw, .int lv, .int lbs, .int lti, .int lts, .int le, .int lk, .int la, .ref l0, .ref l1, .ref l2, .ref l3, .ref l4, .ref l5, .ref l6, .ref l7]))])) (QP (fun v => ∃ x : Int32, v = .int x ∧ Rg 0 1 x)) 0 0 (fun _ => False) := by
  refine MER (y := yX2_mayUndo) (cc := cX2_mayUndo) (maxL := 4) (ret := (some .boolean)) (d := 2) (D := D) (cs := cs) (ws := [(hl0, .inr (2, [.int lb, .int lh, .int lg, .int lw, .int lv, .int lbs, .int lti, .int lts, .int le, .int lk, .int la, .ref l0, .ref l1, .ref l2, .ref l3, .ref l4, .ref l5, .ref l6, .ref l7]))]) (av := [.ref hl0, .int a, .int b]) (Qc := QP (fun v => ∃ x : Int32, v = .int x ∧ Rg 0 1 x)) (by decide) (Nat.le_of_ble_eq_true rfl) ?_
  intro p e s m below meth c ls H hHe hx hb hr hml hown hts hlocks hP hK hN hl
  obtain ⟨locs, hlc⟩ : ∃ z : List Loc, z = [] := ⟨_, rfl⟩
  rw [← hlc]
  have hown : s.vm.findClass "WrongHole$Lift" = some m.cls := hown
  have hT : ∀ w ∈ TB, w.before ([.ref hl0, .int a, .int b] : List Value).toArray s = true := fun w h => hts w (List.mem_cons_of_mem _ h)
  have hl : lv_has ls 4 [(0, .ref hl0), (1, .int a), (2, .int b)] := hl
  have hP : va_P D vwCl [(hl0, .inr (2, [.int lb, .int lh, .int lg, .int lw, .int lv, .int lbs, .int lti, .int lts, .int le, .int lk, .int la, .ref l0, .ref l1, .ref l2, .ref l3, .ref l4, .ref l5, .ref l6, .ref l7]))] H := hP
  refine lv_iload_n hx hb dX2_mayUndo_0 rfl (lv_at hl 1 rfl) ?_
  have hPc := va_P.sub (ws' := []) hP [] rfl
  refine cl_P (W.runS (As := [.int a]) (rest := []) ⟨hx, hb, hml, hown, hts⟩ (c_Rows_in l D cs a) ⟨callB_of 1 hts (gd_C qq_2_230) rfl rfl rfl (hT _ qq_1_16) (hT _ qq_3_11) (by decide +kernel) (rm_R rfl rfl), (hT _ qq_2_229)⟩ (pq_S hPc hK hN) rfl rfl hl.1 rfl (lv_room (Nat.le_of_ble_eq_true rfl)) dX2_mayUndo_1 ⟨Nat.le_of_ble_eq_true rfl, Nat.le_of_ble_eq_true rfl⟩) (fun v9 hz_2 => ?_)
  obtain ⟨x_1, rfl, r_3⟩ := hz_2
  refine lv_istore_n (lv' := [(3, .int x_1), (0, .ref hl0), (1, .int a), (2, .int b)]) hx hb dX2_mayUndo_4 rfl hl (by decide) rfl (fun ls hl => ?_)
  refine lv_iload_n hx hb dX2_mayUndo_5 rfl (lv_at hl 0 rfl) ?_
  refine lv_iload_n hx hb dX2_mayUndo_6 rfl (lv_at hl 3 rfl) ?_
  refine lv_ishr hx hb dX2_mayUndo_7 ?_
  refine lv_topi (fun x_4 e_5 => ?_)
  have r_6 : Rg 0 255 x_4 := Rg.shrn e_5 r_3
  refine lv_iconst (v := 1) hx hb dX2_mayUndo_8 (by decide) ?_
  refine lv_iand hx hb dX2_mayUndo_9 ?_
  refine lv_topi (fun x_7 e_8 => ?_)
  have r_9 : Rg 0 1 x_7 := Rg.and e_8 (Rg.c (c := 1) (k := 1) rfl) (by decide)
  refine lv_if_eq (tgt := 31) hx hb dX2_mayUndo_10 (by decide) (fun c_10 => ?_) (fun c_10 => ?_)
  · have r_11 : Rg 0 0 x_7 := Rg.eq_l c_10 r_9 (Rg.c (c := 0) (k := 0) rfl) (by decide)
    refine lv_iconst (v := 0) hx hb dX2_mayUndo_31 (by decide) ?_
    exact W.zret (v := 0) (ty := .boolean) hx hb hr rfl (fun t9 ht9 hW9 => ⟨⟨_, rfl, _, rfl, (Rg.wk (lo2 := 0) (hi2 := 1) (Rg.c (c := 0) (k := 0) rfl) (by decide))⟩, ht9.trans hHe⟩) (fun _ h9 => by rw [hlc] at h9; exact absurd h9 List.not_mem_nil) dX2_mayUndo_32
  · have r_12 : Rg 1 1 x_7 := Rg.ne c_10 r_9 (Rg.c (c := 0) (k := 0) rfl) (by decide)
    refine lv_aload_n hx hb dX2_mayUndo_13 rfl (lv_at hl 1 rfl) ?_
    refine lv_iload_n hx hb dX2_mayUndo_14 rfl (lv_at hl 0 rfl) ?_
    refine lv_iconst (v := 1) hx hb dX2_mayUndo_15 (by decide) ?_
    refine lv_iload_n hx hb dX2_mayUndo_16 rfl (lv_at hl 3 rfl) ?_
    refine lv_ishl hx hb dX2_mayUndo_17 ?_
    refine lv_topi (fun x_27 e_28 => ?_)
    have r_29 : Rg 0 128 x_27 := Rg.shl (ha := 1) (k := 7) e_28 (Rg.wk (Rg.c (c := 1) (k := 1) rfl) (by decide)) (Rg.wk r_b (by decide)) (by decide) (by decide)
    refine lv_iconst (v := (-1)) hx hb dX2_mayUndo_18 (by decide) ?_
    refine lv_ixor hx hb dX2_mayUndo_19 ?_
    refine lv_topi (fun x_30 e_31 => ?_)
    refine lv_iand hx hb dX2_mayUndo_20 ?_
    refine lv_topi (fun x_32 e_33 => ?_)
    have r_34 : Rg 0 255 x_32 := Rg.andl e_33 r_3 (by decide)
    have hPc := va_P.sub (ws' := [(hl0, .inr (2, [.int lb, .int lh, .int lg, .int lw, .int lv, .int lbs, .int lti, .int lts, .int le, .int lk, .int la, .ref l0, .ref l1, .ref l2, .ref l3, .ref l4, .ref l5, .ref l6, .ref l7]))]) hP [0] rfl
    refine cl_P (W.runV (As := [.int x_32]) (rest := []) ⟨hx, hb, hml, hown, hts⟩ (c_Lift_lawful l D cs hl0 lb lh lg lw lv lbs lti lts le lk la l0 l1 l2 l3 l4 l5 l6 l7 x_32 r_lb r_lh r_le) ⟨callB_of 1 hts (gd_C qq_3_215) rfl rfl rfl (hT _ qq_1_11) (hT _ qq_3_239) (by decide +kernel) (rm_R rfl rfl), (hT _ qq_3_213), (hT _ qq_3_214)⟩ (pq_V hPc hK hN (ci := 2) (q0 := 0) rfl rfl) rfl rfl hl.1 rfl (lv_room (Nat.le_of_ble_eq_true rfl)) dX2_mayUndo_21 ⟨Nat.le_of_ble_eq_true rfl, Nat.le_of_ble_eq_true rfl⟩) (fun v9 hz_36 => ?_)
    obtain ⟨x_35, rfl, r_37⟩ := hz_36
    refine lv_if_eq (tgt := 31) hx hb dX2_mayUndo_24 (by decide) (fun c_38 => ?_) (fun c_38 => ?_)
    · have r_39 : Rg 0 0 x_35 := Rg.eq_l c_38 r_37 (Rg.c (c := 0) (k := 0) rfl) (by decide)
      refine lv_iconst (v := 0) hx hb dX2_mayUndo_31 (by decide) ?_
      exact W.zret (v := 0) (ty := .boolean) hx hb hr rfl (fun t9 ht9 hW9 => ⟨⟨_, rfl, _, rfl, (Rg.wk (lo2 := 0) (hi2 := 1) (Rg.c (c := 0) (k := 0) rfl) (by decide))⟩, ht9.trans hHe⟩) (fun _ h9 => by rw [hlc] at h9; exact absurd h9 List.not_mem_nil) dX2_mayUndo_32
    · have r_40 : Rg 1 1 x_35 := Rg.ne c_38 r_37 (Rg.c (c := 0) (k := 0) rfl) (by decide)
      refine lv_iconst (v := 1) hx hb dX2_mayUndo_27 (by decide) ?_
      refine lv_goto (tgt := 32) hx hb dX2_mayUndo_28 (by decide) ?_
      exact W.zret (v := 1) (ty := .boolean) hx hb hr rfl (fun t9 ht9 hW9 => ⟨⟨_, rfl, _, rfl, (Rg.wk (lo2 := 0) (hi2 := 1) (Rg.c (c := 1) (k := 1) rfl) (by decide))⟩, ht9.trans hHe⟩) (fun _ h9 => by rw [hlc] at h9; exact absurd h9 List.not_mem_nil) dX2_mayUndo_32
theorem dX2_mayDo_0 : decode cX2_mayDo 0 = .ok (.aload_n 0, 1) := by decide +kernel
theorem dX2_mayDo_1 : decode cX2_mayDo 1 = .ok (.iload_n 1, 1) := by decide +kernel
theorem dX2_mayDo_2 : decode cX2_mayDo 2 = .ok (.iload_n 2, 1) := by decide +kernel
theorem dX2_mayDo_3 : decode cX2_mayDo 3 = .ok (.iload_n 3, 1) := by decide +kernel
theorem dX2_mayDo_4 : decode cX2_mayDo 4 = .ok (.invokevirtual 80, 3) := by decide +kernel
theorem qq_3_10 : Cond.code yX2_canBe cX2_canBe 4 (some .boolean) ∈ TB := mk_tb (ti_3 (List.mem_of_getElem? (i := 10) rfl)) rfl
theorem qq_4_29 : Cond.methodLink "WrongHole$Lift" 80 yX2_canBe ∈ TB := mk_tb (ti_4 (List.mem_of_getElem? (i := 29) rfl)) rfl
theorem qq_3_8 : Cond.instanceMethod yX2_canBe ∈ TB := mk_tb (ti_3 (List.mem_of_getElem? (i := 8) rfl)) rfl
theorem qq_3_9 : Cond.selects "WrongHole$Lift" yX2_canBe yX2_canBe ∈ TB := mk_tb (ti_3 (List.mem_of_getElem? (i := 9) rfl)) rfl
theorem dX2_mayDo_7 : decode cX2_mayDo 7 = .ok (.ifCond .eq 22, 3) := by decide +kernel
theorem dX2_mayDo_29 : decode cX2_mayDo 29 = .ok (.iconst 0, 1) := by decide +kernel
theorem dX2_mayDo_30 : decode cX2_mayDo 30 = .ok (.ireturn, 1) := by decide +kernel
theorem dX2_mayDo_10 : decode cX2_mayDo 10 = .ok (.aload_n 0, 1) := by decide +kernel
theorem dX2_mayDo_11 : decode cX2_mayDo 11 = .ok (.iload_n 1, 1) := by decide +kernel
theorem dX2_mayDo_12 : decode cX2_mayDo 12 = .ok (.invokestatic 63, 3) := by decide +kernel
theorem dX2_mayDo_15 : decode cX2_mayDo 15 = .ok (.iconst 1, 1) := by decide +kernel
theorem dX2_mayDo_16 : decode cX2_mayDo 16 = .ok (.iload_n 2, 1) := by decide +kernel
theorem dX2_mayDo_17 : decode cX2_mayDo 17 = .ok (.ishl, 1) := by decide +kernel
theorem dX2_mayDo_18 : decode cX2_mayDo 18 = .ok (.ior, 1) := by decide +kernel
theorem dX2_mayDo_19 : decode cX2_mayDo 19 = .ok (.invokevirtual 76, 3) := by decide +kernel
theorem dX2_mayDo_22 : decode cX2_mayDo 22 = .ok (.ifCond .eq 7, 3) := by decide +kernel
theorem dX2_mayDo_25 : decode cX2_mayDo 25 = .ok (.iconst 1, 1) := by decide +kernel
theorem dX2_mayDo_26 : decode cX2_mayDo 26 = .ok (.goto 4, 3) := by decide +kernel
set_option maxHeartbeats 4000000 in
set_option maxRecDepth 100000 in
theorem c_Lift_mayDo (l : Launch) (D : va_G) (cs : Nat → ClassId) (hl0 : Nat) (lb : Int32) (lh : Int32) (lg : Int32) (lw : Int32) (lv : Int32) (lbs : Int32) (lti : Int32) (lts : Int32) (le : Int32) (lk : Int32) (la : Int32) (l0 : Nat) (l1 : Nat) (l2 : Nat) (l3 : Nat) (l4 : Nat) (l5 : Nat) (l6 : Nat) (l7 : Nat) (f0 : Nat → Int32) (f1 : Nat → Int32) (a : Int32) (b : Int32) (h : Int32) (r_lb : Rg 0 8 lb) (r_lh : Rg 0 8 lh) (r_le : Rg 0 6 le) (r_b : Rg 0 7 b) (r_h : Rg 0 7 h) : Met l yX2_mayDo (Cond.code yX2_mayDo cX2_mayDo 4 (some .boolean) :: TB) (RM 3 0 0) (va_Pc [.ref hl0, .int a, .int b, .int h] (PRR D cs [(hl0, .inr (2, [.int lb, .int lh, .int lg, .int lw, .int lv, .int lbs, .int lti, .int lts, .int le, .int lk, .int la, .ref l0, .ref l1, .ref l2, .ref l3, .ref l4, .ref l5, .ref l6, .ref l7])), (l0, .inl ((cs 0), 8, .inl f0)), (l1, .inl ((cs 0), 8, .inl f1))])) (QP (fun v => ∃ x : Int32, v = .int x ∧ Rg 0 1 x)) 0 0 (fun _ => False) := by
  refine MER (y := yX2_mayDo) (cc := cX2_mayDo) (maxL := 4) (ret := (some .boolean)) (d := 3) (D := D) (cs := cs) (ws := [(hl0, .inr (2, [.int lb, .int lh, .int lg, .int lw, .int lv, .int lbs, .int lti, .int lts, .int le, .int lk, .int la, .ref l0, .ref l1, .ref l2, .ref l3, .ref l4, .ref l5, .ref l6, .ref l7])), (l0, .inl ((cs 0), 8, .inl f0)), (l1, .inl ((cs 0), 8, .inl f1))]) (av := [.ref hl0, .int a, .int b, .int h]) (Qc := QP (fun v => ∃ x : Int32, v = .int x ∧ Rg 0 1 x)) (by decide) (Nat.le_of_ble_eq_true rfl) ?_
  intro p e s m below meth c ls H hHe hx hb hr hml hown hts hlocks hP hK hN hl
  obtain ⟨locs, hlc⟩ : ∃ z : List Loc, z = [] := ⟨_, rfl⟩
  rw [← hlc]
  have hown : s.vm.findClass "WrongHole$Lift" = some m.cls := hown
  have hT : ∀ w ∈ TB, w.before ([.ref hl0, .int a, .int b, .int h] : List Value).toArray s = true := fun w h => hts w (List.mem_cons_of_mem _ h)
  have hl : lv_has ls 4 [(0, .ref hl0), (1, .int a), (2, .int b), (3, .int h)] := hl
  have hP : va_P D vwCl [(hl0, .inr (2, [.int lb, .int lh, .int lg, .int lw, .int lv, .int lbs, .int lti, .int lts, .int le, .int lk, .int la, .ref l0, .ref l1, .ref l2, .ref l3, .ref l4, .ref l5, .ref l6, .ref l7])), (l0, .inl ((cs 0), 8, .inl f0)), (l1, .inl ((cs 0), 8, .inl f1))] H := hP
  refine lv_aload_n hx hb dX2_mayDo_0 rfl (lv_at hl 0 rfl) ?_
  refine lv_iload_n hx hb dX2_mayDo_1 rfl (lv_at hl 1 rfl) ?_
  refine lv_iload_n hx hb dX2_mayDo_2 rfl (lv_at hl 2 rfl) ?_
  refine lv_iload_n hx hb dX2_mayDo_3 rfl (lv_at hl 3 rfl) ?_
  have hPc := va_P.sub (ws' := [(hl0, .inr (2, [.int lb, .int lh, .int lg, .int lw, .int lv, .int lbs, .int lti, .int lts, .int le, .int lk, .int la, .ref l0, .ref l1, .ref l2, .ref l3, .ref l4, .ref l5, .ref l6, .ref l7])), (l0, .inl ((cs 0), 8, .inl f0)), (l1, .inl ((cs 0), 8, .inl f1))]) hP [0, 1, 2] rfl
  refine cl_P (W.runV (As := [.int a, .int b, .int h]) (rest := []) ⟨hx, hb, hml, hown, hts⟩ (c_Lift_canBe l D cs hl0 lb lh lg lw lv lbs lti lts le lk la l0 l1 l2 l3 l4 l5 l6 l7 f0 f1 a b h r_lb r_lh r_le r_b r_h) ⟨callB_of 3 hts (gd_C qq_3_10) rfl rfl rfl (hT _ qq_1_11) (hT _ qq_4_29) (by decide +kernel) (rm_R rfl rfl), (hT _ qq_3_8), (hT _ qq_3_9)⟩ (pq_V hPc hK hN (ci := 2) (q0 := 0) rfl rfl) rfl rfl hl.1 rfl (lv_room (Nat.le_of_ble_eq_true rfl)) dX2_mayDo_4 ⟨Nat.le_of_ble_eq_true rfl, Nat.le_of_ble_eq_true rfl⟩) (fun v9 hz_2 => ?_)
  obtain ⟨x_1, rfl, r_3⟩ := hz_2
  refine lv_if_eq (tgt := 29) hx hb dX2_mayDo_7 (by decide) (fun c_4 => ?_) (fun c_4 => ?_)
  · have r_5 : Rg 0 0 x_1 := Rg.eq_l c_4 r_3 (Rg.c (c := 0) (k := 0) rfl) (by decide)
    refine lv_iconst (v := 0) hx hb dX2_mayDo_29 (by decide) ?_
    exact W.zret (v := 0) (ty := .boolean) hx hb hr rfl (fun t9 ht9 hW9 => ⟨⟨_, rfl, _, rfl, (Rg.wk (lo2 := 0) (hi2 := 1) (Rg.c (c := 0) (k := 0) rfl) (by decide))⟩, ht9.trans hHe⟩) (fun _ h9 => by rw [hlc] at h9; exact absurd h9 List.not_mem_nil) dX2_mayDo_30
  · have r_6 : Rg 1 1 x_1 := Rg.ne c_4 r_3 (Rg.c (c := 0) (k := 0) rfl) (by decide)
    refine lv_aload_n hx hb dX2_mayDo_10 rfl (lv_at hl 0 rfl) ?_
    refine lv_iload_n hx hb dX2_mayDo_11 rfl (lv_at hl 1 rfl) ?_
    have hPc := va_P.sub (ws' := []) hP [] rfl
    refine cl_P (W.runS (As := [.int a]) (rest := [.ref hl0]) ⟨hx, hb, hml, hown, hts⟩ (c_Rows_in l D cs a) ⟨callB_of 1 hts (gd_C qq_2_230) rfl rfl rfl (hT _ qq_1_16) (hT _ qq_3_11) (by decide +kernel) (rm_R rfl rfl), (hT _ qq_2_229)⟩ (pq_S hPc hK hN) rfl rfl hl.1 rfl (lv_room (Nat.le_of_ble_eq_true rfl)) dX2_mayDo_12 ⟨Nat.le_of_ble_eq_true rfl, Nat.le_of_ble_eq_true rfl⟩) (fun v9 hz_23 => ?_)
    obtain ⟨x_22, rfl, r_24⟩ := hz_23
    refine lv_iconst (v := 1) hx hb dX2_mayDo_15 (by decide) ?_
    refine lv_iload_n hx hb dX2_mayDo_16 rfl (lv_at hl 2 rfl) ?_
    refine lv_ishl hx hb dX2_mayDo_17 ?_
    refine lv_topi (fun x_25 e_26 => ?_)
    have r_27 : Rg 0 128 x_25 := Rg.shl (ha := 1) (k := 7) e_26 (Rg.wk (Rg.c (c := 1) (k := 1) rfl) (by decide)) (Rg.wk r_b (by decide)) (by decide) (by decide)
    refine lv_ior hx hb dX2_mayDo_18 ?_
    refine lv_topi (fun x_28 e_29 => ?_)
    have r_30 : Rg 0 255 x_28 := Rg.or (k := 8) e_29 r_24 r_27 (by decide) (by decide)
    have hPc := va_P.sub (ws' := [(hl0, .inr (2, [.int lb, .int lh, .int lg, .int lw, .int lv, .int lbs, .int lti, .int lts, .int le, .int lk, .int la, .ref l0, .ref l1, .ref l2, .ref l3, .ref l4, .ref l5, .ref l6, .ref l7]))]) hP [0] rfl
    refine cl_P (W.runV (As := [.int x_28]) (rest := []) ⟨hx, hb, hml, hown, hts⟩ (c_Lift_lawful l D cs hl0 lb lh lg lw lv lbs lti lts le lk la l0 l1 l2 l3 l4 l5 l6 l7 x_28 r_lb r_lh r_le) ⟨callB_of 1 hts (gd_C qq_3_215) rfl rfl rfl (hT _ qq_1_11) (hT _ qq_3_239) (by decide +kernel) (rm_R rfl rfl), (hT _ qq_3_213), (hT _ qq_3_214)⟩ (pq_V hPc hK hN (ci := 2) (q0 := 0) rfl rfl) rfl rfl hl.1 rfl (lv_room (Nat.le_of_ble_eq_true rfl)) dX2_mayDo_19 ⟨Nat.le_of_ble_eq_true rfl, Nat.le_of_ble_eq_true rfl⟩) (fun v9 hz_32 => ?_)
    obtain ⟨x_31, rfl, r_33⟩ := hz_32
    refine lv_if_eq (tgt := 29) hx hb dX2_mayDo_22 (by decide) (fun c_34 => ?_) (fun c_34 => ?_)
    · have r_35 : Rg 0 0 x_31 := Rg.eq_l c_34 r_33 (Rg.c (c := 0) (k := 0) rfl) (by decide)
      refine lv_iconst (v := 0) hx hb dX2_mayDo_29 (by decide) ?_
      exact W.zret (v := 0) (ty := .boolean) hx hb hr rfl (fun t9 ht9 hW9 => ⟨⟨_, rfl, _, rfl, (Rg.wk (lo2 := 0) (hi2 := 1) (Rg.c (c := 0) (k := 0) rfl) (by decide))⟩, ht9.trans hHe⟩) (fun _ h9 => by rw [hlc] at h9; exact absurd h9 List.not_mem_nil) dX2_mayDo_30
    · have r_36 : Rg 1 1 x_31 := Rg.ne c_34 r_33 (Rg.c (c := 0) (k := 0) rfl) (by decide)
      refine lv_iconst (v := 1) hx hb dX2_mayDo_25 (by decide) ?_
      refine lv_goto (tgt := 30) hx hb dX2_mayDo_26 (by decide) ?_
      exact W.zret (v := 1) (ty := .boolean) hx hb hr rfl (fun t9 ht9 hW9 => ⟨⟨_, rfl, _, rfl, (Rg.wk (lo2 := 0) (hi2 := 1) (Rg.c (c := 1) (k := 1) rfl) (by decide))⟩, ht9.trans hHe⟩) (fun _ h9 => by rw [hlc] at h9; exact absurd h9 List.not_mem_nil) dX2_mayDo_30
theorem dX2_reached_0 : decode cX2_reached 0 = .ok (.aload_n 0, 1) := by decide +kernel
theorem dX2_reached_1 : decode cX2_reached 1 = .ok (.getfield 54, 3) := by decide +kernel
theorem qq_2_62 : Cond.fieldLink "WrongHole$Lift" 54 "WrongHole$Lift" "able" "I" ∈ TB := mk_tb (ti_2 (List.mem_of_getElem? (i := 62) rfl)) rfl
theorem dX2_reached_4 : decode cX2_reached 4 = .ok (.iload_n 1, 1) := by decide +kernel
theorem dX2_reached_5 : decode cX2_reached 5 = .ok (.invokestatic 89, 3) := by decide +kernel
theorem qq_3_221 : Cond.methodLink "WrongHole$Lift" 89 yX6_right ∈ TB := mk_tb (ti_3 (List.mem_of_getElem? (i := 221) rfl)) rfl
theorem dX2_reached_8 : decode cX2_reached 8 = .ok (.iconst (-1), 1) := by decide +kernel
theorem dX2_reached_9 : decode cX2_reached 9 = .ok (.ixor, 1) := by decide +kernel
theorem dX2_reached_10 : decode cX2_reached 10 = .ok (.iand, 1) := by decide +kernel
theorem dX2_reached_11 : decode cX2_reached 11 = .ok (.ifCond .ne 7, 3) := by decide +kernel
theorem dX2_reached_18 : decode cX2_reached 18 = .ok (.iconst 0, 1) := by decide +kernel
theorem dX2_reached_19 : decode cX2_reached 19 = .ok (.ireturn, 1) := by decide +kernel
theorem dX2_reached_14 : decode cX2_reached 14 = .ok (.iconst 1, 1) := by decide +kernel
theorem dX2_reached_15 : decode cX2_reached 15 = .ok (.goto 4, 3) := by decide +kernel
set_option maxHeartbeats 4000000 in
set_option maxRecDepth 100000 in
theorem c_Lift_reached (l : Launch) (D : va_G) (cs : Nat → ClassId) (hl0 : Nat) (lb : Int32) (lh : Int32) (lg : Int32) (lw : Int32) (lv : Int32) (lbs : Int32) (lti : Int32) (lts : Int32) (le : Int32) (lk : Int32) (la : Int32) (l0 : Nat) (l1 : Nat) (l2 : Nat) (l3 : Nat) (l4 : Nat) (l5 : Nat) (l6 : Nat) (l7 : Nat) (a : Int32) (r_lb : Rg 0 8 lb) (r_lh : Rg 0 8 lh) (r_le : Rg 0 6 le) : Met l yX2_reached (Cond.code yX2_reached cX2_reached 2 (some .boolean) :: TB) (RM 3 0 0) (va_Pc [.ref hl0, .int a] (PRR D cs [(hl0, .inr (2, [.int lb, .int lh, .int lg, .int lw, .int lv, .int lbs, .int lti, .int lts, .int le, .int lk, .int la, .ref l0, .ref l1, .ref l2, .ref l3, .ref l4, .ref l5, .ref l6, .ref l7]))])) (QP (fun v => ∃ x : Int32, v = .int x ∧ Rg 0 1 x)) 0 0 (fun _ => False) := by
  refine MER (y := yX2_reached) (cc := cX2_reached) (maxL := 2) (ret := (some .boolean)) (d := 3) (D := D) (cs := cs) (ws := [(hl0, .inr (2, [.int lb, .int lh, .int lg, .int lw, .int lv, .int lbs, .int lti, .int lts, .int le, .int lk, .int la, .ref l0, .ref l1, .ref l2, .ref l3, .ref l4, .ref l5, .ref l6, .ref l7]))]) (av := [.ref hl0, .int a]) (Qc := QP (fun v => ∃ x : Int32, v = .int x ∧ Rg 0 1 x)) (by decide) (Nat.le_of_ble_eq_true rfl) ?_
  intro p e s m below meth c ls H hHe hx hb hr hml hown hts hlocks hP hK hN hl
  obtain ⟨locs, hlc⟩ : ∃ z : List Loc, z = [] := ⟨_, rfl⟩
  rw [← hlc]
  have hown : s.vm.findClass "WrongHole$Lift" = some m.cls := hown
  have hT : ∀ w ∈ TB, w.before ([.ref hl0, .int a] : List Value).toArray s = true := fun w h => hts w (List.mem_cons_of_mem _ h)
  have hl : lv_has ls 2 [(0, .ref hl0), (1, .int a)] := hl
  have hP : va_P D vwCl [(hl0, .inr (2, [.int lb, .int lh, .int lg, .int lw, .int lv, .int lbs, .int lti, .int lts, .int le, .int lk, .int la, .ref l0, .ref l1, .ref l2, .ref l3, .ref l4, .ref l5, .ref l6, .ref l7]))] H := hP
  refine lv_aload_n hx hb dX2_reached_0 rfl (lv_at hl 0 rfl) ?_
  refine va_get (D := D) (ci := 2) (v := .int la) (C := "WrongHole$Lift") (T := TX2) (N := 19) hx hb hts (iq_RX2 _) hown hK hP 0 rfl rfl 10 (by decide) (hT _ qq_2_62) (fun _ h9 => h9) rfl dX2_reached_1 ?_
  refine lv_iload_n hx hb dX2_reached_4 rfl (lv_at hl 1 rfl) ?_
  have hPc := va_P.sub (ws' := []) hP [] rfl
  refine cl_P (W.runS (As := [.int a]) (rest := [.int la]) ⟨hx, hb, hml, hown, hts⟩ (c_Rows_right l D cs a) ⟨callB_of 1 hts (gd_C qq_3_205) rfl rfl rfl (hT _ qq_1_16) (hT _ qq_3_221) (by decide +kernel) (rm_R rfl rfl), (hT _ qq_3_204)⟩ (pq_S hPc hK hN) rfl rfl hl.1 rfl (lv_room (Nat.le_of_ble_eq_true rfl)) dX2_reached_5 ⟨Nat.le_of_ble_eq_true rfl, Nat.le_of_ble_eq_true rfl⟩) (fun v9 hz_2 => ?_)
  obtain ⟨x_1, rfl⟩ := hz_2
  refine lv_iconst (v := (-1)) hx hb dX2_reached_8 (by decide) ?_
  refine lv_ixor hx hb dX2_reached_9 ?_
  refine lv_topi (fun x_4 e_5 => ?_)
  refine lv_iand hx hb dX2_reached_10 ?_
  refine lv_topi (fun x_6 e_7 => ?_)
  refine lv_if_ne (tgt := 18) hx hb dX2_reached_11 (by decide) (fun c_8 => ?_) (fun c_8 => ?_)
  · refine lv_iconst (v := 0) hx hb dX2_reached_18 (by decide) ?_
    exact W.zret (v := 0) (ty := .boolean) hx hb hr rfl (fun t9 ht9 hW9 => ⟨⟨_, rfl, _, rfl, (Rg.wk (lo2 := 0) (hi2 := 1) (Rg.c (c := 0) (k := 0) rfl) (by decide))⟩, ht9.trans hHe⟩) (fun _ h9 => by rw [hlc] at h9; exact absurd h9 List.not_mem_nil) dX2_reached_19
  · have r_9 : Rg 0 0 x_6 := Rg.eq_l c_8 (Rg.top x_6) (Rg.c (c := 0) (k := 0) rfl) (by decide)
    refine lv_iconst (v := 1) hx hb dX2_reached_14 (by decide) ?_
    refine lv_goto (tgt := 19) hx hb dX2_reached_15 (by decide) ?_
    exact W.zret (v := 1) (ty := .boolean) hx hb hr rfl (fun t9 ht9 hW9 => ⟨⟨_, rfl, _, rfl, (Rg.wk (lo2 := 0) (hi2 := 1) (Rg.c (c := 1) (k := 1) rfl) (by decide))⟩, ht9.trans hHe⟩) (fun _ h9 => by rw [hlc] at h9; exact absurd h9 List.not_mem_nil) dX2_reached_19
theorem dX2_undoing_0 : decode cX2_undoing 0 = .ok (.aload_n 0, 1) := by decide +kernel
theorem dX2_undoing_1 : decode cX2_undoing 1 = .ok (.getfield 16, 3) := by decide +kernel
theorem qq_2_72 : Cond.fieldLink "WrongHole$Lift" 16 "WrongHole$Lift" "undos" "[I" ∈ TB := mk_tb (ti_2 (List.mem_of_getElem? (i := 72) rfl)) rfl
theorem dX2_undoing_4 : decode cX2_undoing 4 = .ok (.iload_n 1, 1) := by decide +kernel
theorem dX2_undoing_5 : decode cX2_undoing 5 = .ok (.iaload, 1) := by decide +kernel
theorem dX2_undoing_6 : decode cX2_undoing 6 = .ok (.iload_n 1, 1) := by decide +kernel
theorem dX2_undoing_7 : decode cX2_undoing 7 = .ok (.aload_n 0, 1) := by decide +kernel
theorem dX2_undoing_8 : decode cX2_undoing 8 = .ok (.getfield 92, 3) := by decide +kernel
theorem qq_2_53 : Cond.fieldLink "WrongHole$Lift" 92 "WrongHole$Lift" "tied" "I" ∈ TB := mk_tb (ti_2 (List.mem_of_getElem? (i := 53) rfl)) rfl
theorem dX2_undoing_11 : decode cX2_undoing 11 = .ok (.if_icmp .ge 10, 3) := by decide +kernel
theorem dX2_undoing_21 : decode cX2_undoing 21 = .ok (.iconst 0, 1) := by decide +kernel
theorem dX2_undoing_22 : decode cX2_undoing 22 = .ok (.iadd, 1) := by decide +kernel
theorem dX2_undoing_23 : decode cX2_undoing 23 = .ok (.ireturn, 1) := by decide +kernel
theorem dX2_undoing_14 : decode cX2_undoing 14 = .ok (.aload_n 0, 1) := by decide +kernel
theorem dX2_undoing_15 : decode cX2_undoing 15 = .ok (.getfield 95, 3) := by decide +kernel
theorem qq_2_54 : Cond.fieldLink "WrongHole$Lift" 95 "WrongHole$Lift" "tieSeconds" "I" ∈ TB := mk_tb (ti_2 (List.mem_of_getElem? (i := 54) rfl)) rfl
theorem dX2_undoing_18 : decode cX2_undoing 18 = .ok (.goto 4, 3) := by decide +kernel
set_option maxHeartbeats 4000000 in
set_option maxRecDepth 100000 in
theorem c_Lift_undoing (l : Launch) (D : va_G) (cs : Nat → ClassId) (hl0 : Nat) (lb : Int32) (lh : Int32) (lg : Int32) (lw : Int32) (lv : Int32) (lbs : Int32) (lti : Int32) (lts : Int32) (le : Int32) (lk : Int32) (la : Int32) (l0 : Nat) (l1 : Nat) (l2 : Nat) (l3 : Nat) (l4 : Nat) (l5 : Nat) (l6 : Nat) (l7 : Nat) (f2 : Nat → Int32) (b : Int32) (r_lb : Rg 0 8 lb) (r_lh : Rg 0 8 lh) (r_le : Rg 0 6 le) (r_b : Rg 0 7 b) : Met l yX2_undoing (Cond.code yX2_undoing cX2_undoing 2 (some .int) :: TB) (RM 0 0 0) (va_Pc [.ref hl0, .int b] (PRR D cs [(hl0, .inr (2, [.int lb, .int lh, .int lg, .int lw, .int lv, .int lbs, .int lti, .int lts, .int le, .int lk, .int la, .ref l0, .ref l1, .ref l2, .ref l3, .ref l4, .ref l5, .ref l6, .ref l7])), (l2, .inl ((cs 0), 8, .inl f2))])) (QP (fun v => ∃ x : Int32, v = .int x)) 0 0 (fun _ => False) := by
  refine MER (y := yX2_undoing) (cc := cX2_undoing) (maxL := 2) (ret := (some .int)) (d := 0) (D := D) (cs := cs) (ws := [(hl0, .inr (2, [.int lb, .int lh, .int lg, .int lw, .int lv, .int lbs, .int lti, .int lts, .int le, .int lk, .int la, .ref l0, .ref l1, .ref l2, .ref l3, .ref l4, .ref l5, .ref l6, .ref l7])), (l2, .inl ((cs 0), 8, .inl f2))]) (av := [.ref hl0, .int b]) (Qc := QP (fun v => ∃ x : Int32, v = .int x)) (by decide) (Nat.le_of_ble_eq_true rfl) ?_
  intro p e s m below meth c ls H hHe hx hb hr hml hown hts hlocks hP hK hN hl
  obtain ⟨locs, hlc⟩ : ∃ z : List Loc, z = [] := ⟨_, rfl⟩
  rw [← hlc]
  have hown : s.vm.findClass "WrongHole$Lift" = some m.cls := hown
  have hT : ∀ w ∈ TB, w.before ([.ref hl0, .int b] : List Value).toArray s = true := fun w h => hts w (List.mem_cons_of_mem _ h)
  have hl : lv_has ls 2 [(0, .ref hl0), (1, .int b)] := hl
  have hP : va_P D vwCl [(hl0, .inr (2, [.int lb, .int lh, .int lg, .int lw, .int lv, .int lbs, .int lti, .int lts, .int le, .int lk, .int la, .ref l0, .ref l1, .ref l2, .ref l3, .ref l4, .ref l5, .ref l6, .ref l7])), (l2, .inl ((cs 0), 8, .inl f2))] H := hP
  refine lv_aload_n hx hb dX2_undoing_0 rfl (lv_at hl 0 rfl) ?_
  refine va_get (D := D) (ci := 2) (v := .ref l2) (C := "WrongHole$Lift") (T := TX2) (N := 19) hx hb hts (iq_RX2 _) hown hK hP 0 rfl rfl 13 (by decide) (hT _ qq_2_72) (fun _ h9 => h9) rfl dX2_undoing_1 ?_
  refine lv_iload_n hx hb dX2_undoing_4 rfl (lv_at hl 1 rfl) ?_
  have hi_1 : vp_in b 8 := Rg.in r_b (by decide)
  refine va_iald hx hb hK hP 1 0 rfl rfl hi_1 dX2_undoing_5 ?_
  refine lv_topi (fun x_2 e_3 => ?_)
  refine lv_iload_n hx hb dX2_undoing_6 rfl (lv_at hl 1 rfl) ?_
  refine lv_aload_n hx hb dX2_undoing_7 rfl (lv_at hl 0 rfl) ?_
  refine va_get (D := D) (ci := 2) (v := .int lti) (C := "WrongHole$Lift") (T := TX2) (N := 19) hx hb hts (iq_RX2 _) hown hK hP 0 rfl rfl 6 (by decide) (hT _ qq_2_53) (fun _ h9 => h9) rfl dX2_undoing_8 ?_
  refine lv_icmp_ge (tgt := 21) hx hb dX2_undoing_11 (by decide) (fun c_4 => ?_) (fun c_4 => ?_)
  · have r_5 : Rg (-2147483648) 7 lti := Rg.le_l c_4 (Rg.top lti) r_b (by decide)
    refine lv_iconst (v := 0) hx hb dX2_undoing_21 (by decide) ?_
    refine lv_iadd hx hb dX2_undoing_22 ?_
    refine lv_topi (fun x_7 e_8 => ?_)
    exact W.iret (v := x_7) hx hb hr (fun t9 ht9 hW9 => ⟨⟨_, rfl, _, rfl⟩, ht9.trans hHe⟩) (fun _ h9 => by rw [hlc] at h9; exact absurd h9 List.not_mem_nil) dX2_undoing_23
  · have r_6 : Rg 1 2147483647 lti := Rg.lt_r (nle_lt c_4) r_b (Rg.top lti) (by decide)
    refine lv_aload_n hx hb dX2_undoing_14 rfl (lv_at hl 0 rfl) ?_
    refine va_get (D := D) (ci := 2) (v := .int lts) (C := "WrongHole$Lift") (T := TX2) (N := 19) hx hb hts (iq_RX2 _) hown hK hP 0 rfl rfl 7 (by decide) (hT _ qq_2_54) (fun _ h9 => h9) rfl dX2_undoing_15 ?_
    refine lv_goto (tgt := 22) hx hb dX2_undoing_18 (by decide) ?_
    refine lv_iadd hx hb dX2_undoing_22 ?_
    refine lv_topi (fun x_9 e_10 => ?_)
    exact W.iret (v := x_9) hx hb hr (fun t9 ht9 hW9 => ⟨⟨_, rfl, _, rfl⟩, ht9.trans hHe⟩) (fun _ h9 => by rw [hlc] at h9; exact absurd h9 List.not_mem_nil) dX2_undoing_23
theorem dX2_doing_0 : decode cX2_doing 0 = .ok (.aload_n 0, 1) := by decide +kernel
theorem dX2_doing_1 : decode cX2_doing 1 = .ok (.getfield 19, 3) := by decide +kernel
theorem qq_2_74 : Cond.fieldLink "WrongHole$Lift" 19 "WrongHole$Lift" "dos" "[I" ∈ TB := mk_tb (ti_2 (List.mem_of_getElem? (i := 74) rfl)) rfl
theorem dX2_doing_4 : decode cX2_doing 4 = .ok (.iload_n 1, 1) := by decide +kernel
theorem dX2_doing_5 : decode cX2_doing 5 = .ok (.iaload, 1) := by decide +kernel
theorem dX2_doing_6 : decode cX2_doing 6 = .ok (.iload_n 1, 1) := by decide +kernel
theorem dX2_doing_7 : decode cX2_doing 7 = .ok (.aload_n 0, 1) := by decide +kernel
theorem dX2_doing_8 : decode cX2_doing 8 = .ok (.getfield 92, 3) := by decide +kernel
theorem dX2_doing_11 : decode cX2_doing 11 = .ok (.if_icmp .ge 10, 3) := by decide +kernel
theorem dX2_doing_21 : decode cX2_doing 21 = .ok (.iconst 0, 1) := by decide +kernel
theorem dX2_doing_22 : decode cX2_doing 22 = .ok (.iadd, 1) := by decide +kernel
theorem dX2_doing_23 : decode cX2_doing 23 = .ok (.ireturn, 1) := by decide +kernel
theorem dX2_doing_14 : decode cX2_doing 14 = .ok (.aload_n 0, 1) := by decide +kernel
theorem dX2_doing_15 : decode cX2_doing 15 = .ok (.getfield 95, 3) := by decide +kernel
theorem dX2_doing_18 : decode cX2_doing 18 = .ok (.goto 4, 3) := by decide +kernel
set_option maxHeartbeats 4000000 in
set_option maxRecDepth 100000 in
theorem c_Lift_doing (l : Launch) (D : va_G) (cs : Nat → ClassId) (hl0 : Nat) (lb : Int32) (lh : Int32) (lg : Int32) (lw : Int32) (lv : Int32) (lbs : Int32) (lti : Int32) (lts : Int32) (le : Int32) (lk : Int32) (la : Int32) (l0 : Nat) (l1 : Nat) (l2 : Nat) (l3 : Nat) (l4 : Nat) (l5 : Nat) (l6 : Nat) (l7 : Nat) (f3 : Nat → Int32) (b : Int32) (r_lb : Rg 0 8 lb) (r_lh : Rg 0 8 lh) (r_le : Rg 0 6 le) (r_b : Rg 0 7 b) : Met l yX2_doing (Cond.code yX2_doing cX2_doing 2 (some .int) :: TB) (RM 0 0 0) (va_Pc [.ref hl0, .int b] (PRR D cs [(hl0, .inr (2, [.int lb, .int lh, .int lg, .int lw, .int lv, .int lbs, .int lti, .int lts, .int le, .int lk, .int la, .ref l0, .ref l1, .ref l2, .ref l3, .ref l4, .ref l5, .ref l6, .ref l7])), (l3, .inl ((cs 0), 8, .inl f3))])) (QP (fun v => ∃ x : Int32, v = .int x)) 0 0 (fun _ => False) := by
  refine MER (y := yX2_doing) (cc := cX2_doing) (maxL := 2) (ret := (some .int)) (d := 0) (D := D) (cs := cs) (ws := [(hl0, .inr (2, [.int lb, .int lh, .int lg, .int lw, .int lv, .int lbs, .int lti, .int lts, .int le, .int lk, .int la, .ref l0, .ref l1, .ref l2, .ref l3, .ref l4, .ref l5, .ref l6, .ref l7])), (l3, .inl ((cs 0), 8, .inl f3))]) (av := [.ref hl0, .int b]) (Qc := QP (fun v => ∃ x : Int32, v = .int x)) (by decide) (Nat.le_of_ble_eq_true rfl) ?_
  intro p e s m below meth c ls H hHe hx hb hr hml hown hts hlocks hP hK hN hl
  obtain ⟨locs, hlc⟩ : ∃ z : List Loc, z = [] := ⟨_, rfl⟩
  rw [← hlc]
  have hown : s.vm.findClass "WrongHole$Lift" = some m.cls := hown
  have hT : ∀ w ∈ TB, w.before ([.ref hl0, .int b] : List Value).toArray s = true := fun w h => hts w (List.mem_cons_of_mem _ h)
  have hl : lv_has ls 2 [(0, .ref hl0), (1, .int b)] := hl
  have hP : va_P D vwCl [(hl0, .inr (2, [.int lb, .int lh, .int lg, .int lw, .int lv, .int lbs, .int lti, .int lts, .int le, .int lk, .int la, .ref l0, .ref l1, .ref l2, .ref l3, .ref l4, .ref l5, .ref l6, .ref l7])), (l3, .inl ((cs 0), 8, .inl f3))] H := hP
  refine lv_aload_n hx hb dX2_doing_0 rfl (lv_at hl 0 rfl) ?_
  refine va_get (D := D) (ci := 2) (v := .ref l3) (C := "WrongHole$Lift") (T := TX2) (N := 19) hx hb hts (iq_RX2 _) hown hK hP 0 rfl rfl 14 (by decide) (hT _ qq_2_74) (fun _ h9 => h9) rfl dX2_doing_1 ?_
  refine lv_iload_n hx hb dX2_doing_4 rfl (lv_at hl 1 rfl) ?_
  have hi_1 : vp_in b 8 := Rg.in r_b (by decide)
  refine va_iald hx hb hK hP 1 0 rfl rfl hi_1 dX2_doing_5 ?_
  refine lv_topi (fun x_2 e_3 => ?_)
  refine lv_iload_n hx hb dX2_doing_6 rfl (lv_at hl 1 rfl) ?_
  refine lv_aload_n hx hb dX2_doing_7 rfl (lv_at hl 0 rfl) ?_
  refine va_get (D := D) (ci := 2) (v := .int lti) (C := "WrongHole$Lift") (T := TX2) (N := 19) hx hb hts (iq_RX2 _) hown hK hP 0 rfl rfl 6 (by decide) (hT _ qq_2_53) (fun _ h9 => h9) rfl dX2_doing_8 ?_
  refine lv_icmp_ge (tgt := 21) hx hb dX2_doing_11 (by decide) (fun c_4 => ?_) (fun c_4 => ?_)
  · have r_5 : Rg (-2147483648) 7 lti := Rg.le_l c_4 (Rg.top lti) r_b (by decide)
    refine lv_iconst (v := 0) hx hb dX2_doing_21 (by decide) ?_
    refine lv_iadd hx hb dX2_doing_22 ?_
    refine lv_topi (fun x_7 e_8 => ?_)
    exact W.iret (v := x_7) hx hb hr (fun t9 ht9 hW9 => ⟨⟨_, rfl, _, rfl⟩, ht9.trans hHe⟩) (fun _ h9 => by rw [hlc] at h9; exact absurd h9 List.not_mem_nil) dX2_doing_23
  · have r_6 : Rg 1 2147483647 lti := Rg.lt_r (nle_lt c_4) r_b (Rg.top lti) (by decide)
    refine lv_aload_n hx hb dX2_doing_14 rfl (lv_at hl 0 rfl) ?_
    refine va_get (D := D) (ci := 2) (v := .int lts) (C := "WrongHole$Lift") (T := TX2) (N := 19) hx hb hts (iq_RX2 _) hown hK hP 0 rfl rfl 7 (by decide) (hT _ qq_2_54) (fun _ h9 => h9) rfl dX2_doing_15 ?_
    refine lv_goto (tgt := 22) hx hb dX2_doing_18 (by decide) ?_
    refine lv_iadd hx hb dX2_doing_22 ?_
    refine lv_topi (fun x_9 e_10 => ?_)
    exact W.iret (v := x_9) hx hb hr (fun t9 ht9 hW9 => ⟨⟨_, rfl, _, rfl⟩, ht9.trans hHe⟩) (fun _ h9 => by rw [hlc] at h9; exact absurd h9 List.not_mem_nil) dX2_doing_23
theorem dX2_secondsOf_0 : decode cX2_secondsOf 0 = .ok (.iload_n 1, 1) := by decide +kernel
theorem dX2_secondsOf_1 : decode cX2_secondsOf 1 = .ok (.invokestatic 98, 3) := by decide +kernel
theorem qq_4_9 : Cond.methodLink "WrongHole$Lift" 98 yX6_buttonOf ∈ TB := mk_tb (ti_4 (List.mem_of_getElem? (i := 9) rfl)) rfl
theorem dX2_secondsOf_4 : decode cX2_secondsOf 4 = .ok (.istore_n 2, 1) := by decide +kernel
theorem dX2_secondsOf_5 : decode cX2_secondsOf 5 = .ok (.iload_n 1, 1) := by decide +kernel
theorem dX2_secondsOf_6 : decode cX2_secondsOf 6 = .ok (.invokestatic 101, 3) := by decide +kernel
theorem qq_4_10 : Cond.methodLink "WrongHole$Lift" 101 yX6_does ∈ TB := mk_tb (ti_4 (List.mem_of_getElem? (i := 10) rfl)) rfl
theorem dX2_secondsOf_9 : decode cX2_secondsOf 9 = .ok (.iconst 1, 1) := by decide +kernel
theorem dX2_secondsOf_10 : decode cX2_secondsOf 10 = .ok (.if_icmp .ne 11, 3) := by decide +kernel
theorem dX2_secondsOf_21 : decode cX2_secondsOf 21 = .ok (.aload_n 0, 1) := by decide +kernel
theorem dX2_secondsOf_22 : decode cX2_secondsOf 22 = .ok (.iload_n 2, 1) := by decide +kernel
theorem dX2_secondsOf_23 : decode cX2_secondsOf 23 = .ok (.invokevirtual 107, 3) := by decide +kernel
theorem qq_3_174 : Cond.code yX2_undoing cX2_undoing 2 (some .int) ∈ TB := mk_tb (ti_3 (List.mem_of_getElem? (i := 174) rfl)) rfl
theorem qq_4_14 : Cond.methodLink "WrongHole$Lift" 107 yX2_undoing ∈ TB := mk_tb (ti_4 (List.mem_of_getElem? (i := 14) rfl)) rfl
theorem qq_3_172 : Cond.instanceMethod yX2_undoing ∈ TB := mk_tb (ti_3 (List.mem_of_getElem? (i := 172) rfl)) rfl
theorem qq_3_173 : Cond.selects "WrongHole$Lift" yX2_undoing yX2_undoing ∈ TB := mk_tb (ti_3 (List.mem_of_getElem? (i := 173) rfl)) rfl
theorem dX2_secondsOf_26 : decode cX2_secondsOf 26 = .ok (.ireturn, 1) := by decide +kernel
theorem dX2_secondsOf_13 : decode cX2_secondsOf 13 = .ok (.aload_n 0, 1) := by decide +kernel
theorem dX2_secondsOf_14 : decode cX2_secondsOf 14 = .ok (.iload_n 2, 1) := by decide +kernel
theorem dX2_secondsOf_15 : decode cX2_secondsOf 15 = .ok (.invokevirtual 104, 3) := by decide +kernel
theorem qq_3_178 : Cond.code yX2_doing cX2_doing 2 (some .int) ∈ TB := mk_tb (ti_3 (List.mem_of_getElem? (i := 178) rfl)) rfl
theorem qq_4_13 : Cond.methodLink "WrongHole$Lift" 104 yX2_doing ∈ TB := mk_tb (ti_4 (List.mem_of_getElem? (i := 13) rfl)) rfl
theorem qq_3_176 : Cond.instanceMethod yX2_doing ∈ TB := mk_tb (ti_3 (List.mem_of_getElem? (i := 176) rfl)) rfl
theorem qq_3_177 : Cond.selects "WrongHole$Lift" yX2_doing yX2_doing ∈ TB := mk_tb (ti_3 (List.mem_of_getElem? (i := 177) rfl)) rfl
theorem dX2_secondsOf_18 : decode cX2_secondsOf 18 = .ok (.goto 8, 3) := by decide +kernel
set_option maxHeartbeats 4000000 in
set_option maxRecDepth 100000 in
theorem c_Lift_secondsOf (l : Launch) (D : va_G) (cs : Nat → ClassId) (hl0 : Nat) (lb : Int32) (lh : Int32) (lg : Int32) (lw : Int32) (lv : Int32) (lbs : Int32) (lti : Int32) (lts : Int32) (le : Int32) (lk : Int32) (la : Int32) (l0 : Nat) (l1 : Nat) (l2 : Nat) (l3 : Nat) (l4 : Nat) (l5 : Nat) (l6 : Nat) (l7 : Nat) (f2 : Nat → Int32) (f3 : Nat → Int32) (a : Int32) (r_lb : Rg 0 8 lb) (r_lh : Rg 0 8 lh) (r_le : Rg 0 6 le) : Met l yX2_secondsOf (Cond.code yX2_secondsOf cX2_secondsOf 3 (some .int) :: TB) (RM 1 0 0) (va_Pc [.ref hl0, .int a] (PRR D cs [(hl0, .inr (2, [.int lb, .int lh, .int lg, .int lw, .int lv, .int lbs, .int lti, .int lts, .int le, .int lk, .int la, .ref l0, .ref l1, .ref l2, .ref l3, .ref l4, .ref l5, .ref l6, .ref l7])), (l2, .inl ((cs 0), 8, .inl f2)), (l3, .inl ((cs 0), 8, .inl f3))])) (QP (fun v => ∃ x : Int32, v = .int x)) 0 0 (fun _ => False) := by
  refine MER (y := yX2_secondsOf) (cc := cX2_secondsOf) (maxL := 3) (ret := (some .int)) (d := 1) (D := D) (cs := cs) (ws := [(hl0, .inr (2, [.int lb, .int lh, .int lg, .int lw, .int lv, .int lbs, .int lti, .int lts, .int le, .int lk, .int la, .ref l0, .ref l1, .ref l2, .ref l3, .ref l4, .ref l5, .ref l6, .ref l7])), (l2, .inl ((cs 0), 8, .inl f2)), (l3, .inl ((cs 0), 8, .inl f3))]) (av := [.ref hl0, .int a]) (Qc := QP (fun v => ∃ x : Int32, v = .int x)) (by decide) (Nat.le_of_ble_eq_true rfl) ?_
  intro p e s m below meth c ls H hHe hx hb hr hml hown hts hlocks hP hK hN hl
  obtain ⟨locs, hlc⟩ : ∃ z : List Loc, z = [] := ⟨_, rfl⟩
  rw [← hlc]
  have hown : s.vm.findClass "WrongHole$Lift" = some m.cls := hown
  have hT : ∀ w ∈ TB, w.before ([.ref hl0, .int a] : List Value).toArray s = true := fun w h => hts w (List.mem_cons_of_mem _ h)
  have hl : lv_has ls 3 [(0, .ref hl0), (1, .int a)] := hl
  have hP : va_P D vwCl [(hl0, .inr (2, [.int lb, .int lh, .int lg, .int lw, .int lv, .int lbs, .int lti, .int lts, .int le, .int lk, .int la, .ref l0, .ref l1, .ref l2, .ref l3, .ref l4, .ref l5, .ref l6, .ref l7])), (l2, .inl ((cs 0), 8, .inl f2)), (l3, .inl ((cs 0), 8, .inl f3))] H := hP
  refine lv_iload_n hx hb dX2_secondsOf_0 rfl (lv_at hl 1 rfl) ?_
  have hPc := va_P.sub (ws' := []) hP [] rfl
  refine cl_P (W.runS (As := [.int a]) (rest := []) ⟨hx, hb, hml, hown, hts⟩ (c_Rows_buttonOf l D cs a) ⟨callB_of 1 hts (gd_C qq_3_39) rfl rfl rfl (hT _ qq_1_16) (hT _ qq_4_9) (by decide +kernel) (rm_R rfl rfl), (hT _ qq_3_38)⟩ (pq_S hPc hK hN) rfl rfl hl.1 rfl (lv_room (Nat.le_of_ble_eq_true rfl)) dX2_secondsOf_1 ⟨Nat.le_of_ble_eq_true rfl, Nat.le_of_ble_eq_true rfl⟩) (fun v9 hz_2 => ?_)
  obtain ⟨x_1, rfl, r_3⟩ := hz_2
  refine lv_istore_n (lv' := [(2, .int x_1), (0, .ref hl0), (1, .int a)]) hx hb dX2_secondsOf_4 rfl hl (by decide) rfl (fun ls hl => ?_)
  refine lv_iload_n hx hb dX2_secondsOf_5 rfl (lv_at hl 2 rfl) ?_
  have hPc := va_P.sub (ws' := []) hP [] rfl
  refine cl_P (W.runS (As := [.int a]) (rest := []) ⟨hx, hb, hml, hown, hts⟩ (c_Rows_does l D cs a) ⟨callB_of 1 hts (gd_C qq_4_12) rfl rfl rfl (hT _ qq_1_16) (hT _ qq_4_10) (by decide +kernel) (rm_R rfl rfl), (hT _ qq_4_11)⟩ (pq_S hPc hK hN) rfl rfl hl.1 rfl (lv_room (Nat.le_of_ble_eq_true rfl)) dX2_secondsOf_6 ⟨Nat.le_of_ble_eq_true rfl, Nat.le_of_ble_eq_true rfl⟩) (fun v9 hz_5 => ?_)
  obtain ⟨x_4, rfl, r_6⟩ := hz_5
  refine lv_iconst (v := 1) hx hb dX2_secondsOf_9 (by decide) ?_
  refine lv_icmp_ne (tgt := 21) hx hb dX2_secondsOf_10 (by decide) (fun c_7 => ?_) (fun c_7 => ?_)
  · have r_8 : Rg 0 0 x_4 := Rg.ne c_7 r_6 (Rg.c (c := 1) (k := 1) rfl) (by decide)
    refine lv_aload_n hx hb dX2_secondsOf_21 rfl (lv_at hl 1 rfl) ?_
    refine lv_iload_n hx hb dX2_secondsOf_22 rfl (lv_at hl 0 rfl) ?_
    have hPc := va_P.sub (ws' := [(hl0, .inr (2, [.int lb, .int lh, .int lg, .int lw, .int lv, .int lbs, .int lti, .int lts, .int le, .int lk, .int la, .ref l0, .ref l1, .ref l2, .ref l3, .ref l4, .ref l5, .ref l6, .ref l7])), (l2, .inl ((cs 0), 8, .inl f2))]) hP [0, 1] rfl
    refine cl_P (W.runV (As := [.int x_1]) (rest := []) ⟨hx, hb, hml, hown, hts⟩ (c_Lift_undoing l D cs hl0 lb lh lg lw lv lbs lti lts le lk la l0 l1 l2 l3 l4 l5 l6 l7 f2 x_1 r_lb r_lh r_le r_3) ⟨callB_of 1 hts (gd_C qq_3_174) rfl rfl rfl (hT _ qq_1_11) (hT _ qq_4_14) (by decide +kernel) (rm_R rfl rfl), (hT _ qq_3_172), (hT _ qq_3_173)⟩ (pq_V hPc hK hN (ci := 2) (q0 := 0) rfl rfl) rfl rfl hl.1 rfl (lv_room (Nat.le_of_ble_eq_true rfl)) dX2_secondsOf_23 ⟨Nat.le_of_ble_eq_true rfl, Nat.le_of_ble_eq_true rfl⟩) (fun v9 hz_17 => ?_)
    obtain ⟨x_16, rfl⟩ := hz_17
    exact W.iret (v := x_16) hx hb hr (fun t9 ht9 hW9 => ⟨⟨_, rfl, _, rfl⟩, ht9.trans hHe⟩) (fun _ h9 => by rw [hlc] at h9; exact absurd h9 List.not_mem_nil) dX2_secondsOf_26
  · have r_9 : Rg 1 1 x_4 := Rg.eq_l c_7 r_6 (Rg.c (c := 1) (k := 1) rfl) (by decide)
    refine lv_aload_n hx hb dX2_secondsOf_13 rfl (lv_at hl 1 rfl) ?_
    refine lv_iload_n hx hb dX2_secondsOf_14 rfl (lv_at hl 0 rfl) ?_
    have hPc := va_P.sub (ws' := [(hl0, .inr (2, [.int lb, .int lh, .int lg, .int lw, .int lv, .int lbs, .int lti, .int lts, .int le, .int lk, .int la, .ref l0, .ref l1, .ref l2, .ref l3, .ref l4, .ref l5, .ref l6, .ref l7])), (l3, .inl ((cs 0), 8, .inl f3))]) hP [0, 2] rfl
    refine cl_P (W.runV (As := [.int x_1]) (rest := []) ⟨hx, hb, hml, hown, hts⟩ (c_Lift_doing l D cs hl0 lb lh lg lw lv lbs lti lts le lk la l0 l1 l2 l3 l4 l5 l6 l7 f3 x_1 r_lb r_lh r_le r_3) ⟨callB_of 1 hts (gd_C qq_3_178) rfl rfl rfl (hT _ qq_1_11) (hT _ qq_4_13) (by decide +kernel) (rm_R rfl rfl), (hT _ qq_3_176), (hT _ qq_3_177)⟩ (pq_V hPc hK hN (ci := 2) (q0 := 0) rfl rfl) rfl rfl hl.1 rfl (lv_room (Nat.le_of_ble_eq_true rfl)) dX2_secondsOf_15 ⟨Nat.le_of_ble_eq_true rfl, Nat.le_of_ble_eq_true rfl⟩) (fun v9 hz_20 => ?_)
    obtain ⟨x_19, rfl⟩ := hz_20
    refine lv_goto (tgt := 26) hx hb dX2_secondsOf_18 (by decide) ?_
    exact W.iret (v := x_19) hx hb hr (fun t9 ht9 hW9 => ⟨⟨_, rfl, _, rfl⟩, ht9.trans hHe⟩) (fun _ h9 => by rw [hlc] at h9; exact absurd h9 List.not_mem_nil) dX2_secondsOf_26
theorem dX2_eyesOn_0 : decode cX2_eyesOn 0 = .ok (.iconst 0, 1) := by decide +kernel
theorem dX2_eyesOn_1 : decode cX2_eyesOn 1 = .ok (.istore_n 3, 1) := by decide +kernel
theorem dX2_eyesOn_2 : decode cX2_eyesOn 2 = .ok (.iconst 0, 1) := by decide +kernel
theorem dX2_eyesOn_3 : decode cX2_eyesOn 3 = .ok (.istore 4, 2) := by decide +kernel
theorem dX2_eyesOn_5 : decode cX2_eyesOn 5 = .ok (.iload 4, 2) := by decide +kernel
theorem dX2_eyesOn_7 : decode cX2_eyesOn 7 = .ok (.aload_n 0, 1) := by decide +kernel
theorem dX2_eyesOn_8 : decode cX2_eyesOn 8 = .ok (.getfield 110, 3) := by decide +kernel
theorem qq_2_57 : Cond.fieldLink "WrongHole$Lift" 110 "WrongHole$Lift" "eyes" "I" ∈ TB := mk_tb (ti_2 (List.mem_of_getElem? (i := 57) rfl)) rfl
theorem dX2_eyesOn_11 : decode cX2_eyesOn 11 = .ok (.if_icmp .ge 38, 3) := by decide +kernel
theorem dX2_eyesOn_49 : decode cX2_eyesOn 49 = .ok (.iload_n 3, 1) := by decide +kernel
theorem dX2_eyesOn_50 : decode cX2_eyesOn 50 = .ok (.ireturn, 1) := by decide +kernel
theorem dX2_eyesOn_14 : decode cX2_eyesOn 14 = .ok (.iload_n 3, 1) := by decide +kernel
theorem dX2_eyesOn_15 : decode cX2_eyesOn 15 = .ok (.aload_n 0, 1) := by decide +kernel
theorem dX2_eyesOn_16 : decode cX2_eyesOn 16 = .ok (.getfield 31, 3) := by decide +kernel
theorem qq_2_83 : Cond.fieldLink "WrongHole$Lift" 31 "WrongHole$Lift" "eyeSeconds" "[I" ∈ TB := mk_tb (ti_2 (List.mem_of_getElem? (i := 83) rfl)) rfl
theorem dX2_eyesOn_19 : decode cX2_eyesOn 19 = .ok (.iload 4, 2) := by decide +kernel
theorem dX2_eyesOn_21 : decode cX2_eyesOn 21 = .ok (.iaload, 1) := by decide +kernel
theorem dX2_eyesOn_22 : decode cX2_eyesOn 22 = .ok (.iload_n 2, 1) := by decide +kernel
theorem dX2_eyesOn_23 : decode cX2_eyesOn 23 = .ok (.if_icmp .gt 17, 3) := by decide +kernel
theorem dX2_eyesOn_41 : decode cX2_eyesOn 41 = .ok (.iadd, 1) := by decide +kernel
theorem dX2_eyesOn_42 : decode cX2_eyesOn 42 = .ok (.istore_n 3, 1) := by decide +kernel
theorem dX2_eyesOn_43 : decode cX2_eyesOn 43 = .ok (.iinc 4 1, 3) := by decide +kernel
theorem dX2_eyesOn_46 : decode cX2_eyesOn 46 = .ok (.goto (-41), 3) := by decide +kernel
theorem dX2_eyesOn_40 : decode cX2_eyesOn 40 = .ok (.iconst 0, 1) := by decide +kernel
theorem dX2_eyesOn_26 : decode cX2_eyesOn 26 = .ok (.aload_n 0, 1) := by decide +kernel
theorem dX2_eyesOn_27 : decode cX2_eyesOn 27 = .ok (.getfield 28, 3) := by decide +kernel
theorem qq_2_81 : Cond.fieldLink "WrongHole$Lift" 28 "WrongHole$Lift" "eyeBits" "[I" ∈ TB := mk_tb (ti_2 (List.mem_of_getElem? (i := 81) rfl)) rfl
theorem dX2_eyesOn_30 : decode cX2_eyesOn 30 = .ok (.iload 4, 2) := by decide +kernel
theorem dX2_eyesOn_32 : decode cX2_eyesOn 32 = .ok (.iaload, 1) := by decide +kernel
theorem dX2_eyesOn_33 : decode cX2_eyesOn 33 = .ok (.iload_n 1, 1) := by decide +kernel
theorem dX2_eyesOn_34 : decode cX2_eyesOn 34 = .ok (.ishr, 1) := by decide +kernel
theorem dX2_eyesOn_35 : decode cX2_eyesOn 35 = .ok (.iconst 1, 1) := by decide +kernel
theorem dX2_eyesOn_36 : decode cX2_eyesOn 36 = .ok (.iand, 1) := by decide +kernel
theorem dX2_eyesOn_37 : decode cX2_eyesOn 37 = .ok (.goto 4, 3) := by decide +kernel
set_option maxHeartbeats 4000000 in
set_option maxRecDepth 100000 in
theorem c_Lift_eyesOn (l : Launch) (D : va_G) (cs : Nat → ClassId) (hl0 : Nat) (lb : Int32) (lh : Int32) (lg : Int32) (lw : Int32) (lv : Int32) (lbs : Int32) (lti : Int32) (lts : Int32) (le : Int32) (lk : Int32) (la : Int32) (l0 : Nat) (l1 : Nat) (l2 : Nat) (l3 : Nat) (l4 : Nat) (l5 : Nat) (l6 : Nat) (l7 : Nat) (f6 : Nat → Int32) (f7 : Nat → Int32) (b : Int32) (a : Int32) (r_lb : Rg 0 8 lb) (r_lh : Rg 0 8 lh) (r_le : Rg 0 6 le) : Met l yX2_eyesOn (Cond.code yX2_eyesOn cX2_eyesOn 5 (some .int) :: TB) (RM 0 0 0) (va_Pc [.ref hl0, .int b, .int a] (PRR D cs [(hl0, .inr (2, [.int lb, .int lh, .int lg, .int lw, .int lv, .int lbs, .int lti, .int lts, .int le, .int lk, .int la, .ref l0, .ref l1, .ref l2, .ref l3, .ref l4, .ref l5, .ref l6, .ref l7])), (l6, .inl ((cs 0), 6, .inl f6)), (l7, .inl ((cs 0), 6, .inl f7))])) (QP (fun v => ∃ x : Int32, v = .int x)) 0 0 (fun _ => False) := by
  refine MER (y := yX2_eyesOn) (cc := cX2_eyesOn) (maxL := 5) (ret := (some .int)) (d := 0) (D := D) (cs := cs) (ws := [(hl0, .inr (2, [.int lb, .int lh, .int lg, .int lw, .int lv, .int lbs, .int lti, .int lts, .int le, .int lk, .int la, .ref l0, .ref l1, .ref l2, .ref l3, .ref l4, .ref l5, .ref l6, .ref l7])), (l6, .inl ((cs 0), 6, .inl f6)), (l7, .inl ((cs 0), 6, .inl f7))]) (av := [.ref hl0, .int b, .int a]) (Qc := QP (fun v => ∃ x : Int32, v = .int x)) (by decide) (Nat.le_of_ble_eq_true rfl) ?_
  intro p e s m below meth c ls H hHe hx hb hr hml hown hts hlocks hP hK hN hl
  obtain ⟨locs, hlc⟩ : ∃ z : List Loc, z = [] := ⟨_, rfl⟩
  rw [← hlc]
  have hown : s.vm.findClass "WrongHole$Lift" = some m.cls := hown
  have hT : ∀ w ∈ TB, w.before ([.ref hl0, .int b, .int a] : List Value).toArray s = true := fun w h => hts w (List.mem_cons_of_mem _ h)
  have hl : lv_has ls 5 [(0, .ref hl0), (1, .int b), (2, .int a)] := hl
  have hP : va_P D vwCl [(hl0, .inr (2, [.int lb, .int lh, .int lg, .int lw, .int lv, .int lbs, .int lti, .int lts, .int le, .int lk, .int la, .ref l0, .ref l1, .ref l2, .ref l3, .ref l4, .ref l5, .ref l6, .ref l7])), (l6, .inl ((cs 0), 6, .inl f6)), (l7, .inl ((cs 0), 6, .inl f7))] H := hP
  refine lv_iconst (v := 0) hx hb dX2_eyesOn_0 (by decide) ?_
  refine lv_istore_n (lv' := [(3, .int 0), (0, .ref hl0), (1, .int b), (2, .int a)]) hx hb dX2_eyesOn_1 rfl hl (by decide) rfl (fun ls hl => ?_)
  refine lv_iconst (v := 0) hx hb dX2_eyesOn_2 (by decide) ?_
  refine lv_istore (lv' := [(4, .int 0), (3, .int 0), (0, .ref hl0), (1, .int b), (2, .int a)]) hx hb dX2_eyesOn_3 hl (by decide) rfl (fun ls hl => ?_)
  refine w_wh (σ := (Int32) × (Int32)) (fun x9 H locs ls => match x9 with | (v_50, v_51) => Rg 0 6 v_50 ∧ H = s.heap ∧ locs = [] ∧ va_P D vwCl [(hl0, .inr (2, [.int lb, .int lh, .int lg, .int lw, .int lv, .int lbs, .int lti, .int lts, .int le, .int lk, .int la, .ref l0, .ref l1, .ref l2, .ref l3, .ref l4, .ref l5, .ref l6, .ref l7])), (l6, .inl ((cs 0), 6, .inl f6)), (l7, .inl ((cs 0), 6, .inl f7))] H ∧ lv_has ls 5 [(4, .int v_50), (3, .int v_51), (0, .ref hl0), (1, .int b), (2, .int a)]) (fun x9 => match x9 with | (v_50, v_51) => (6 - Int32.toInt v_50).toNat) 5 ?_ (0, 0) H locs ls ⟨(Rg.wk (lo2 := 0) (hi2 := 6) (Rg.c (c := 0) (k := 0) rfl) (by decide)), hHe, hlc, hP, lv_sub hl [0, 1, 2, 3, 4] rfl⟩
  rintro ⟨v_50, v_51⟩ H locs ls ⟨r_534, hHe, hlc, hP, hl⟩ ih_533
  refine lv_iload hx hb dX2_eyesOn_5 (lv_at hl 0 rfl) ?_
  refine lv_aload_n hx hb dX2_eyesOn_7 rfl (lv_at hl 2 rfl) ?_
  refine va_get (D := D) (ci := 2) (v := .int le) (C := "WrongHole$Lift") (T := TX2) (N := 19) hx hb hts (iq_RX2 _) hown hK hP 0 rfl rfl 8 (by decide) (hT _ qq_2_57) (fun _ h9 => h9) rfl dX2_eyesOn_8 ?_
  refine lv_icmp_ge (tgt := 49) hx hb dX2_eyesOn_11 (by decide) (fun c_535 => ?_) (fun c_535 => ?_)
  · refine lv_iload_n hx hb dX2_eyesOn_49 rfl (lv_at hl 1 rfl) ?_
    exact W.iret (v := v_51) hx hb hr (fun t9 ht9 hW9 => ⟨⟨_, rfl, _, rfl⟩, ht9.trans hHe⟩) (fun _ h9 => by rw [hlc] at h9; exact absurd h9 List.not_mem_nil) dX2_eyesOn_50
  · have r_536 : Rg 0 5 v_50 := Rg.lt_l (nle_lt c_535) r_534 r_le (by decide)
    have r_537 : Rg 1 6 le := Rg.lt_r (nle_lt c_535) r_534 r_le (by decide)
    refine lv_iload_n hx hb dX2_eyesOn_14 rfl (lv_at hl 1 rfl) ?_
    refine lv_aload_n hx hb dX2_eyesOn_15 rfl (lv_at hl 2 rfl) ?_
    refine va_get (D := D) (ci := 2) (v := .ref l7) (C := "WrongHole$Lift") (T := TX2) (N := 19) hx hb hts (iq_RX2 _) hown hK hP 0 rfl rfl 18 (by decide) (hT _ qq_2_83) (fun _ h9 => h9) rfl dX2_eyesOn_16 ?_
    refine lv_iload hx hb dX2_eyesOn_19 (lv_at hl 0 rfl) ?_
    have hi_563 : vp_in v_50 6 := Rg.in r_536 (by decide)
    refine va_iald hx hb hK hP 2 0 rfl rfl hi_563 dX2_eyesOn_21 ?_
    refine lv_topi (fun x_564 e_565 => ?_)
    refine lv_iload_n hx hb dX2_eyesOn_22 rfl (lv_at hl 4 rfl) ?_
    refine w_cut (σ := (Int32)) (fun (v_576 : Int32) H locs ls => Rg 0 1 v_576 ∧ H = s.heap ∧ locs = [] ∧ va_P D vwCl [(hl0, .inr (2, [.int lb, .int lh, .int lg, .int lw, .int lv, .int lbs, .int lti, .int lts, .int le, .int lk, .int la, .ref l0, .ref l1, .ref l2, .ref l3, .ref l4, .ref l5, .ref l6, .ref l7])), (l6, .inl ((cs 0), 6, .inl f6)), (l7, .inl ((cs 0), 6, .inl f7))] H ∧ lv_has ls 5 [(4, .int v_50), (3, .int v_51), (0, .ref hl0), (1, .int b), (2, .int a)]) 41 (fun (v_576 : Int32) => [.int v_576, .int v_51]) ?_ (fun hj_577 => ?_)
    · rintro v_576 H locs ls ⟨r_578, hHe, hlc, hP, hl⟩
      refine lv_iadd hx hb dX2_eyesOn_41 ?_
      refine lv_topi (fun x_579 e_580 => ?_)
      refine lv_istore_n (lv' := [(3, .int x_579), (4, .int v_50), (0, .ref hl0), (1, .int b), (2, .int a)]) hx hb dX2_eyesOn_42 rfl hl (by decide) rfl (fun ls hl => ?_)
      obtain ⟨x_581, e_582⟩ : ∃ z : Int32, z = v_50 + Int32.ofInt 1 := ⟨_, rfl⟩
      have r_583 : Rg 1 6 x_581 := Rg.add e_582 r_536 (Rg.c (c := Int32.ofInt 1) (k := 1) rfl) (by decide)
      refine lv_iinc (v := x_581) (lv' := [(4, .int x_581), (3, .int x_579), (0, .ref hl0), (1, .int b), (2, .int a)]) hx hb dX2_eyesOn_43 hl (k := 1) rfl (e_582.symm) (by decide) rfl (fun ls hl => ?_)
      refine lv_goto (tgt := 5) hx hb dX2_eyesOn_46 (by decide) ?_
      exact ih_533 (x_581, x_579) _ _ _ ⟨(Rg.wk (lo2 := 0) (hi2 := 6) r_583 (by decide)), hHe, hlc, hP, lv_sub hl [0, 1, 2, 3, 4] rfl⟩ (ms_up e_582 r_536 (Rg.c (c := Int32.ofInt 1) (k := 1) rfl) (by decide))
    · refine lv_icmp_gt (tgt := 40) hx hb dX2_eyesOn_23 (by decide) (fun c_566 => ?_) (fun c_566 => ?_)
      · have r_567 : Rg (-2147483648) 2147483646 a := Rg.lt_l c_566 (Rg.top a) (Rg.top x_564) (by decide)
        have r_568 : Rg (-2147483647) 2147483647 x_564 := Rg.lt_r c_566 (Rg.top a) (Rg.top x_564) (by decide)
        refine lv_iconst (v := 0) hx hb dX2_eyesOn_40 (by decide) ?_
        exact hj_577 0 _ _ _ ⟨(Rg.wk (lo2 := 0) (hi2 := 1) (Rg.c (c := 0) (k := 0) rfl) (by decide)), hHe, hlc, hP, lv_sub hl [0, 1, 2, 3, 4] rfl⟩
      · refine lv_aload_n hx hb dX2_eyesOn_26 rfl (lv_at hl 2 rfl) ?_
        refine va_get (D := D) (ci := 2) (v := .ref l6) (C := "WrongHole$Lift") (T := TX2) (N := 19) hx hb hts (iq_RX2 _) hown hK hP 0 rfl rfl 17 (by decide) (hT _ qq_2_81) (fun _ h9 => h9) rfl dX2_eyesOn_27 ?_
        refine lv_iload hx hb dX2_eyesOn_30 (lv_at hl 0 rfl) ?_
        have hi_584 : vp_in v_50 6 := Rg.in r_536 (by decide)
        refine va_iald hx hb hK hP 1 0 rfl rfl hi_584 dX2_eyesOn_32 ?_
        refine lv_topi (fun x_585 e_586 => ?_)
        refine lv_iload_n hx hb dX2_eyesOn_33 rfl (lv_at hl 3 rfl) ?_
        refine lv_ishr hx hb dX2_eyesOn_34 ?_
        refine lv_topi (fun x_587 e_588 => ?_)
        refine lv_iconst (v := 1) hx hb dX2_eyesOn_35 (by decide) ?_
        refine lv_iand hx hb dX2_eyesOn_36 ?_
        refine lv_topi (fun x_589 e_590 => ?_)
        have r_591 : Rg 0 1 x_589 := Rg.and e_590 (Rg.c (c := 1) (k := 1) rfl) (by decide)
        refine lv_goto (tgt := 41) hx hb dX2_eyesOn_37 (by decide) ?_
        exact hj_577 x_589 _ _ _ ⟨r_591, hHe, hlc, hP, lv_sub hl [0, 1, 2, 3, 4] rfl⟩
theorem dX2_shownTo_0 : decode cX2_shownTo 0 = .ok (.iconst 0, 1) := by decide +kernel
theorem dX2_shownTo_1 : decode cX2_shownTo 1 = .ok (.istore_n 3, 1) := by decide +kernel
theorem dX2_shownTo_2 : decode cX2_shownTo 2 = .ok (.iconst 0, 1) := by decide +kernel
theorem dX2_shownTo_3 : decode cX2_shownTo 3 = .ok (.istore 4, 2) := by decide +kernel
theorem dX2_shownTo_5 : decode cX2_shownTo 5 = .ok (.iload 4, 2) := by decide +kernel
theorem dX2_shownTo_7 : decode cX2_shownTo 7 = .ok (.aload_n 0, 1) := by decide +kernel
theorem dX2_shownTo_8 : decode cX2_shownTo 8 = .ok (.getfield 110, 3) := by decide +kernel
theorem dX2_shownTo_11 : decode cX2_shownTo 11 = .ok (.if_icmp .ge 41, 3) := by decide +kernel
theorem dX2_shownTo_52 : decode cX2_shownTo 52 = .ok (.iload_n 3, 1) := by decide +kernel
theorem dX2_shownTo_53 : decode cX2_shownTo 53 = .ok (.ireturn, 1) := by decide +kernel
theorem dX2_shownTo_14 : decode cX2_shownTo 14 = .ok (.iload_n 3, 1) := by decide +kernel
theorem dX2_shownTo_15 : decode cX2_shownTo 15 = .ok (.aload_n 0, 1) := by decide +kernel
theorem dX2_shownTo_16 : decode cX2_shownTo 16 = .ok (.getfield 31, 3) := by decide +kernel
theorem dX2_shownTo_19 : decode cX2_shownTo 19 = .ok (.iload 4, 2) := by decide +kernel
theorem dX2_shownTo_21 : decode cX2_shownTo 21 = .ok (.iaload, 1) := by decide +kernel
theorem dX2_shownTo_22 : decode cX2_shownTo 22 = .ok (.iload_n 2, 1) := by decide +kernel
theorem dX2_shownTo_23 : decode cX2_shownTo 23 = .ok (.if_icmp .gt 20, 3) := by decide +kernel
theorem dX2_shownTo_44 : decode cX2_shownTo 44 = .ok (.iadd, 1) := by decide +kernel
theorem dX2_shownTo_45 : decode cX2_shownTo 45 = .ok (.istore_n 3, 1) := by decide +kernel
theorem dX2_shownTo_46 : decode cX2_shownTo 46 = .ok (.iinc 4 1, 3) := by decide +kernel
theorem dX2_shownTo_49 : decode cX2_shownTo 49 = .ok (.goto (-44), 3) := by decide +kernel
theorem dX2_shownTo_43 : decode cX2_shownTo 43 = .ok (.iconst 0, 1) := by decide +kernel
theorem dX2_shownTo_26 : decode cX2_shownTo 26 = .ok (.aload_n 0, 1) := by decide +kernel
theorem dX2_shownTo_27 : decode cX2_shownTo 27 = .ok (.getfield 28, 3) := by decide +kernel
theorem dX2_shownTo_30 : decode cX2_shownTo 30 = .ok (.iload 4, 2) := by decide +kernel
theorem dX2_shownTo_32 : decode cX2_shownTo 32 = .ok (.iaload, 1) := by decide +kernel
theorem dX2_shownTo_33 : decode cX2_shownTo 33 = .ok (.iload_n 1, 1) := by decide +kernel
theorem dX2_shownTo_34 : decode cX2_shownTo 34 = .ok (.iconst (-1), 1) := by decide +kernel
theorem dX2_shownTo_35 : decode cX2_shownTo 35 = .ok (.ixor, 1) := by decide +kernel
theorem dX2_shownTo_36 : decode cX2_shownTo 36 = .ok (.iand, 1) := by decide +kernel
theorem dX2_shownTo_37 : decode cX2_shownTo 37 = .ok (.invokestatic 113, 3) := by decide +kernel
theorem qq_3_230 : Cond.methodLink "WrongHole$Lift" 113 yJ6_bitCount_0f7a4 ∈ TB := mk_tb (ti_3 (List.mem_of_getElem? (i := 230) rfl)) rfl
theorem dX2_shownTo_40 : decode cX2_shownTo 40 = .ok (.goto 4, 3) := by decide +kernel
set_option maxHeartbeats 4000000 in
set_option maxRecDepth 100000 in
theorem c_Lift_shownTo (l : Launch) (D : va_G) (cs : Nat → ClassId) (hl0 : Nat) (lb : Int32) (lh : Int32) (lg : Int32) (lw : Int32) (lv : Int32) (lbs : Int32) (lti : Int32) (lts : Int32) (le : Int32) (lk : Int32) (la : Int32) (l0 : Nat) (l1 : Nat) (l2 : Nat) (l3 : Nat) (l4 : Nat) (l5 : Nat) (l6 : Nat) (l7 : Nat) (f6 : Nat → Int32) (f7 : Nat → Int32) (b : Int32) (a : Int32) (r_lb : Rg 0 8 lb) (r_lh : Rg 0 8 lh) (r_le : Rg 0 6 le) : Met l yX2_shownTo (Cond.code yX2_shownTo cX2_shownTo 5 (some .int) :: TB) (RM 1 0 0) (va_Pc [.ref hl0, .int b, .int a] (PRR D cs [(hl0, .inr (2, [.int lb, .int lh, .int lg, .int lw, .int lv, .int lbs, .int lti, .int lts, .int le, .int lk, .int la, .ref l0, .ref l1, .ref l2, .ref l3, .ref l4, .ref l5, .ref l6, .ref l7])), (l6, .inl ((cs 0), 6, .inl f6)), (l7, .inl ((cs 0), 6, .inl f7))])) (QP (fun v => ∃ x : Int32, v = .int x)) 0 0 (fun _ => False) := by
  refine MER (y := yX2_shownTo) (cc := cX2_shownTo) (maxL := 5) (ret := (some .int)) (d := 1) (D := D) (cs := cs) (ws := [(hl0, .inr (2, [.int lb, .int lh, .int lg, .int lw, .int lv, .int lbs, .int lti, .int lts, .int le, .int lk, .int la, .ref l0, .ref l1, .ref l2, .ref l3, .ref l4, .ref l5, .ref l6, .ref l7])), (l6, .inl ((cs 0), 6, .inl f6)), (l7, .inl ((cs 0), 6, .inl f7))]) (av := [.ref hl0, .int b, .int a]) (Qc := QP (fun v => ∃ x : Int32, v = .int x)) (by decide) (Nat.le_of_ble_eq_true rfl) ?_
  intro p e s m below meth c ls H hHe hx hb hr hml hown hts hlocks hP hK hN hl
  obtain ⟨locs, hlc⟩ : ∃ z : List Loc, z = [] := ⟨_, rfl⟩
  rw [← hlc]
  have hown : s.vm.findClass "WrongHole$Lift" = some m.cls := hown
  have hT : ∀ w ∈ TB, w.before ([.ref hl0, .int b, .int a] : List Value).toArray s = true := fun w h => hts w (List.mem_cons_of_mem _ h)
  have hl : lv_has ls 5 [(0, .ref hl0), (1, .int b), (2, .int a)] := hl
  have hP : va_P D vwCl [(hl0, .inr (2, [.int lb, .int lh, .int lg, .int lw, .int lv, .int lbs, .int lti, .int lts, .int le, .int lk, .int la, .ref l0, .ref l1, .ref l2, .ref l3, .ref l4, .ref l5, .ref l6, .ref l7])), (l6, .inl ((cs 0), 6, .inl f6)), (l7, .inl ((cs 0), 6, .inl f7))] H := hP
  refine lv_iconst (v := 0) hx hb dX2_shownTo_0 (by decide) ?_
  refine lv_istore_n (lv' := [(3, .int 0), (0, .ref hl0), (1, .int b), (2, .int a)]) hx hb dX2_shownTo_1 rfl hl (by decide) rfl (fun ls hl => ?_)
  refine lv_iconst (v := 0) hx hb dX2_shownTo_2 (by decide) ?_
  refine lv_istore (lv' := [(4, .int 0), (3, .int 0), (0, .ref hl0), (1, .int b), (2, .int a)]) hx hb dX2_shownTo_3 hl (by decide) rfl (fun ls hl => ?_)
  refine w_wh (σ := (Int32) × (Int32)) (fun x9 H locs ls => match x9 with | (v_58, v_59) => Rg 0 6 v_58 ∧ H = s.heap ∧ locs = [] ∧ va_P D vwCl [(hl0, .inr (2, [.int lb, .int lh, .int lg, .int lw, .int lv, .int lbs, .int lti, .int lts, .int le, .int lk, .int la, .ref l0, .ref l1, .ref l2, .ref l3, .ref l4, .ref l5, .ref l6, .ref l7])), (l6, .inl ((cs 0), 6, .inl f6)), (l7, .inl ((cs 0), 6, .inl f7))] H ∧ lv_has ls 5 [(4, .int v_58), (3, .int v_59), (0, .ref hl0), (1, .int b), (2, .int a)]) (fun x9 => match x9 with | (v_58, v_59) => (6 - Int32.toInt v_58).toNat) 5 ?_ (0, 0) H locs ls ⟨(Rg.wk (lo2 := 0) (hi2 := 6) (Rg.c (c := 0) (k := 0) rfl) (by decide)), hHe, hlc, hP, lv_sub hl [0, 1, 2, 3, 4] rfl⟩
  rintro ⟨v_58, v_59⟩ H locs ls ⟨r_551, hHe, hlc, hP, hl⟩ ih_550
  refine lv_iload hx hb dX2_shownTo_5 (lv_at hl 0 rfl) ?_
  refine lv_aload_n hx hb dX2_shownTo_7 rfl (lv_at hl 2 rfl) ?_
  refine va_get (D := D) (ci := 2) (v := .int le) (C := "WrongHole$Lift") (T := TX2) (N := 19) hx hb hts (iq_RX2 _) hown hK hP 0 rfl rfl 8 (by decide) (hT _ qq_2_57) (fun _ h9 => h9) rfl dX2_shownTo_8 ?_
  refine lv_icmp_ge (tgt := 52) hx hb dX2_shownTo_11 (by decide) (fun c_552 => ?_) (fun c_552 => ?_)
  · refine lv_iload_n hx hb dX2_shownTo_52 rfl (lv_at hl 1 rfl) ?_
    exact W.iret (v := v_59) hx hb hr (fun t9 ht9 hW9 => ⟨⟨_, rfl, _, rfl⟩, ht9.trans hHe⟩) (fun _ h9 => by rw [hlc] at h9; exact absurd h9 List.not_mem_nil) dX2_shownTo_53
  · have r_553 : Rg 0 5 v_58 := Rg.lt_l (nle_lt c_552) r_551 r_le (by decide)
    have r_554 : Rg 1 6 le := Rg.lt_r (nle_lt c_552) r_551 r_le (by decide)
    refine lv_iload_n hx hb dX2_shownTo_14 rfl (lv_at hl 1 rfl) ?_
    refine lv_aload_n hx hb dX2_shownTo_15 rfl (lv_at hl 2 rfl) ?_
    refine va_get (D := D) (ci := 2) (v := .ref l7) (C := "WrongHole$Lift") (T := TX2) (N := 19) hx hb hts (iq_RX2 _) hown hK hP 0 rfl rfl 18 (by decide) (hT _ qq_2_83) (fun _ h9 => h9) rfl dX2_shownTo_16 ?_
    refine lv_iload hx hb dX2_shownTo_19 (lv_at hl 0 rfl) ?_
    have hi_584 : vp_in v_58 6 := Rg.in r_553 (by decide)
    refine va_iald hx hb hK hP 2 0 rfl rfl hi_584 dX2_shownTo_21 ?_
    refine lv_topi (fun x_585 e_586 => ?_)
    refine lv_iload_n hx hb dX2_shownTo_22 rfl (lv_at hl 4 rfl) ?_
    refine w_cut (σ := (Int32)) (fun (v_599 : Int32) H locs ls => Rg 0 63 v_599 ∧ H = s.heap ∧ locs = [] ∧ va_P D vwCl [(hl0, .inr (2, [.int lb, .int lh, .int lg, .int lw, .int lv, .int lbs, .int lti, .int lts, .int le, .int lk, .int la, .ref l0, .ref l1, .ref l2, .ref l3, .ref l4, .ref l5, .ref l6, .ref l7])), (l6, .inl ((cs 0), 6, .inl f6)), (l7, .inl ((cs 0), 6, .inl f7))] H ∧ lv_has ls 5 [(4, .int v_58), (3, .int v_59), (0, .ref hl0), (1, .int b), (2, .int a)]) 44 (fun (v_599 : Int32) => [.int v_599, .int v_59]) ?_ (fun hj_600 => ?_)
    · rintro v_599 H locs ls ⟨r_601, hHe, hlc, hP, hl⟩
      refine lv_iadd hx hb dX2_shownTo_44 ?_
      refine lv_topi (fun x_602 e_603 => ?_)
      refine lv_istore_n (lv' := [(3, .int x_602), (4, .int v_58), (0, .ref hl0), (1, .int b), (2, .int a)]) hx hb dX2_shownTo_45 rfl hl (by decide) rfl (fun ls hl => ?_)
      obtain ⟨x_604, e_605⟩ : ∃ z : Int32, z = v_58 + Int32.ofInt 1 := ⟨_, rfl⟩
      have r_606 : Rg 1 6 x_604 := Rg.add e_605 r_553 (Rg.c (c := Int32.ofInt 1) (k := 1) rfl) (by decide)
      refine lv_iinc (v := x_604) (lv' := [(4, .int x_604), (3, .int x_602), (0, .ref hl0), (1, .int b), (2, .int a)]) hx hb dX2_shownTo_46 hl (k := 1) rfl (e_605.symm) (by decide) rfl (fun ls hl => ?_)
      refine lv_goto (tgt := 5) hx hb dX2_shownTo_49 (by decide) ?_
      exact ih_550 (x_604, x_602) _ _ _ ⟨(Rg.wk (lo2 := 0) (hi2 := 6) r_606 (by decide)), hHe, hlc, hP, lv_sub hl [0, 1, 2, 3, 4] rfl⟩ (ms_up e_605 r_553 (Rg.c (c := Int32.ofInt 1) (k := 1) rfl) (by decide))
    · refine lv_icmp_gt (tgt := 43) hx hb dX2_shownTo_23 (by decide) (fun c_587 => ?_) (fun c_587 => ?_)
      · have r_588 : Rg (-2147483648) 2147483646 a := Rg.lt_l c_587 (Rg.top a) (Rg.top x_585) (by decide)
        have r_589 : Rg (-2147483647) 2147483647 x_585 := Rg.lt_r c_587 (Rg.top a) (Rg.top x_585) (by decide)
        refine lv_iconst (v := 0) hx hb dX2_shownTo_43 (by decide) ?_
        exact hj_600 0 _ _ _ ⟨(Rg.wk (lo2 := 0) (hi2 := 63) (Rg.c (c := 0) (k := 0) rfl) (by decide)), hHe, hlc, hP, lv_sub hl [0, 1, 2, 3, 4] rfl⟩
      · refine lv_aload_n hx hb dX2_shownTo_26 rfl (lv_at hl 2 rfl) ?_
        refine va_get (D := D) (ci := 2) (v := .ref l6) (C := "WrongHole$Lift") (T := TX2) (N := 19) hx hb hts (iq_RX2 _) hown hK hP 0 rfl rfl 17 (by decide) (hT _ qq_2_81) (fun _ h9 => h9) rfl dX2_shownTo_27 ?_
        refine lv_iload hx hb dX2_shownTo_30 (lv_at hl 0 rfl) ?_
        have hi_607 : vp_in v_58 6 := Rg.in r_553 (by decide)
        refine va_iald hx hb hK hP 1 0 rfl rfl hi_607 dX2_shownTo_32 ?_
        refine lv_topi (fun x_608 e_609 => ?_)
        refine lv_iload_n hx hb dX2_shownTo_33 rfl (lv_at hl 3 rfl) ?_
        refine lv_iconst (v := (-1)) hx hb dX2_shownTo_34 (by decide) ?_
        refine lv_ixor hx hb dX2_shownTo_35 ?_
        refine lv_topi (fun x_610 e_611 => ?_)
        refine lv_iand hx hb dX2_shownTo_36 ?_
        refine lv_topi (fun x_612 e_613 => ?_)
        have hPc := va_P.sub (ws' := []) hP [] rfl
        refine cl_P (W.runS (As := [.int x_612]) (rest := [.int v_59]) ⟨hx, hb, hml, hown, hts⟩ (c_bitCount l D cs x_612) ⟨callB_of 1 hts (gd_C qq_3_26) rfl rfl rfl (hT _ qq_1_17) (hT _ qq_3_230) (by decide +kernel) (rm_R rfl rfl), (hT _ qq_3_25)⟩ (pq_S hPc hK hN) rfl rfl hl.1 rfl (lv_room (Nat.le_of_ble_eq_true rfl)) dX2_shownTo_37 ⟨Nat.le_of_ble_eq_true rfl, Nat.le_of_ble_eq_true rfl⟩) (fun v9 hz_615 => ?_)
        obtain ⟨x_614, rfl, r_616⟩ := hz_615
        refine lv_goto (tgt := 44) hx hb dX2_shownTo_40 (by decide) ?_
        exact hj_600 x_614 _ _ _ ⟨r_616, hHe, hlc, hP, lv_sub hl [0, 1, 2, 3, 4] rfl⟩
theorem dX2_worthOf_0 : decode cX2_worthOf 0 = .ok (.iconst 0, 1) := by decide +kernel
theorem dX2_worthOf_1 : decode cX2_worthOf 1 = .ok (.istore_n 2, 1) := by decide +kernel
theorem dX2_worthOf_2 : decode cX2_worthOf 2 = .ok (.iconst 0, 1) := by decide +kernel
theorem dX2_worthOf_3 : decode cX2_worthOf 3 = .ok (.istore_n 3, 1) := by decide +kernel
theorem dX2_worthOf_4 : decode cX2_worthOf 4 = .ok (.iload_n 3, 1) := by decide +kernel
theorem dX2_worthOf_5 : decode cX2_worthOf 5 = .ok (.aload_n 0, 1) := by decide +kernel
theorem dX2_worthOf_6 : decode cX2_worthOf 6 = .ok (.getfield 44, 3) := by decide +kernel
theorem dX2_worthOf_9 : decode cX2_worthOf 9 = .ok (.if_icmp .ge 30, 3) := by decide +kernel
theorem dX2_worthOf_39 : decode cX2_worthOf 39 = .ok (.iload_n 2, 1) := by decide +kernel
theorem dX2_worthOf_40 : decode cX2_worthOf 40 = .ok (.ireturn, 1) := by decide +kernel
theorem dX2_worthOf_12 : decode cX2_worthOf 12 = .ok (.iload_n 2, 1) := by decide +kernel
theorem dX2_worthOf_13 : decode cX2_worthOf 13 = .ok (.iload_n 1, 1) := by decide +kernel
theorem dX2_worthOf_14 : decode cX2_worthOf 14 = .ok (.iload_n 3, 1) := by decide +kernel
theorem dX2_worthOf_15 : decode cX2_worthOf 15 = .ok (.ishr, 1) := by decide +kernel
theorem dX2_worthOf_16 : decode cX2_worthOf 16 = .ok (.iconst 1, 1) := by decide +kernel
theorem dX2_worthOf_17 : decode cX2_worthOf 17 = .ok (.iand, 1) := by decide +kernel
theorem dX2_worthOf_18 : decode cX2_worthOf 18 = .ok (.ifCond .eq 12, 3) := by decide +kernel
theorem dX2_worthOf_31 : decode cX2_worthOf 31 = .ok (.iadd, 1) := by decide +kernel
theorem dX2_worthOf_32 : decode cX2_worthOf 32 = .ok (.istore_n 2, 1) := by decide +kernel
theorem dX2_worthOf_33 : decode cX2_worthOf 33 = .ok (.iinc 3 1, 3) := by decide +kernel
theorem dX2_worthOf_36 : decode cX2_worthOf 36 = .ok (.goto (-32), 3) := by decide +kernel
theorem dX2_worthOf_30 : decode cX2_worthOf 30 = .ok (.iconst 0, 1) := by decide +kernel
theorem dX2_worthOf_21 : decode cX2_worthOf 21 = .ok (.aload_n 0, 1) := by decide +kernel
theorem dX2_worthOf_22 : decode cX2_worthOf 22 = .ok (.getfield 22, 3) := by decide +kernel
theorem qq_2_76 : Cond.fieldLink "WrongHole$Lift" 22 "WrongHole$Lift" "worths" "[I" ∈ TB := mk_tb (ti_2 (List.mem_of_getElem? (i := 76) rfl)) rfl
theorem dX2_worthOf_25 : decode cX2_worthOf 25 = .ok (.iload_n 3, 1) := by decide +kernel
theorem dX2_worthOf_26 : decode cX2_worthOf 26 = .ok (.iaload, 1) := by decide +kernel
theorem dX2_worthOf_27 : decode cX2_worthOf 27 = .ok (.goto 4, 3) := by decide +kernel
set_option maxHeartbeats 4000000 in
set_option maxRecDepth 100000 in
theorem c_Lift_worthOf (l : Launch) (D : va_G) (cs : Nat → ClassId) (hl0 : Nat) (lb : Int32) (lh : Int32) (lg : Int32) (lw : Int32) (lv : Int32) (lbs : Int32) (lti : Int32) (lts : Int32) (le : Int32) (lk : Int32) (la : Int32) (l0 : Nat) (l1 : Nat) (l2 : Nat) (l3 : Nat) (l4 : Nat) (l5 : Nat) (l6 : Nat) (l7 : Nat) (f4 : Nat → Int32) (a : Int32) (r_lb : Rg 0 8 lb) (r_lh : Rg 0 8 lh) (r_le : Rg 0 6 le) : Met l yX2_worthOf (Cond.code yX2_worthOf cX2_worthOf 4 (some .int) :: TB) (RM 0 0 0) (va_Pc [.ref hl0, .int a] (PRR D cs [(hl0, .inr (2, [.int lb, .int lh, .int lg, .int lw, .int lv, .int lbs, .int lti, .int lts, .int le, .int lk, .int la, .ref l0, .ref l1, .ref l2, .ref l3, .ref l4, .ref l5, .ref l6, .ref l7])), (l4, .inl ((cs 0), 8, .inl f4))])) (QP (fun v => ∃ x : Int32, v = .int x)) 0 0 (fun _ => False) := by
  refine MER (y := yX2_worthOf) (cc := cX2_worthOf) (maxL := 4) (ret := (some .int)) (d := 0) (D := D) (cs := cs) (ws := [(hl0, .inr (2, [.int lb, .int lh, .int lg, .int lw, .int lv, .int lbs, .int lti, .int lts, .int le, .int lk, .int la, .ref l0, .ref l1, .ref l2, .ref l3, .ref l4, .ref l5, .ref l6, .ref l7])), (l4, .inl ((cs 0), 8, .inl f4))]) (av := [.ref hl0, .int a]) (Qc := QP (fun v => ∃ x : Int32, v = .int x)) (by decide) (Nat.le_of_ble_eq_true rfl) ?_
  intro p e s m below meth c ls H hHe hx hb hr hml hown hts hlocks hP hK hN hl
  obtain ⟨locs, hlc⟩ : ∃ z : List Loc, z = [] := ⟨_, rfl⟩
  rw [← hlc]
  have hown : s.vm.findClass "WrongHole$Lift" = some m.cls := hown
  have hT : ∀ w ∈ TB, w.before ([.ref hl0, .int a] : List Value).toArray s = true := fun w h => hts w (List.mem_cons_of_mem _ h)
  have hl : lv_has ls 4 [(0, .ref hl0), (1, .int a)] := hl
  have hP : va_P D vwCl [(hl0, .inr (2, [.int lb, .int lh, .int lg, .int lw, .int lv, .int lbs, .int lti, .int lts, .int le, .int lk, .int la, .ref l0, .ref l1, .ref l2, .ref l3, .ref l4, .ref l5, .ref l6, .ref l7])), (l4, .inl ((cs 0), 8, .inl f4))] H := hP
  refine lv_iconst (v := 0) hx hb dX2_worthOf_0 (by decide) ?_
  refine lv_istore_n (lv' := [(2, .int 0), (0, .ref hl0), (1, .int a)]) hx hb dX2_worthOf_1 rfl hl (by decide) rfl (fun ls hl => ?_)
  refine lv_iconst (v := 0) hx hb dX2_worthOf_2 (by decide) ?_
  refine lv_istore_n (lv' := [(3, .int 0), (2, .int 0), (0, .ref hl0), (1, .int a)]) hx hb dX2_worthOf_3 rfl hl (by decide) rfl (fun ls hl => ?_)
  refine w_wh (σ := (Int32) × (Int32)) (fun x9 H locs ls => match x9 with | (v_34, v_35) => Rg 0 8 v_34 ∧ H = s.heap ∧ locs = [] ∧ va_P D vwCl [(hl0, .inr (2, [.int lb, .int lh, .int lg, .int lw, .int lv, .int lbs, .int lti, .int lts, .int le, .int lk, .int la, .ref l0, .ref l1, .ref l2, .ref l3, .ref l4, .ref l5, .ref l6, .ref l7])), (l4, .inl ((cs 0), 8, .inl f4))] H ∧ lv_has ls 4 [(3, .int v_34), (2, .int v_35), (0, .ref hl0), (1, .int a)]) (fun x9 => match x9 with | (v_34, v_35) => (8 - Int32.toInt v_34).toNat) 4 ?_ (0, 0) H locs ls ⟨(Rg.wk (lo2 := 0) (hi2 := 8) (Rg.c (c := 0) (k := 0) rfl) (by decide)), hHe, hlc, hP, lv_sub hl [0, 1, 2, 3] rfl⟩
  rintro ⟨v_34, v_35⟩ H locs ls ⟨r_349, hHe, hlc, hP, hl⟩ ih_348
  refine lv_iload_n hx hb dX2_worthOf_4 rfl (lv_at hl 0 rfl) ?_
  refine lv_aload_n hx hb dX2_worthOf_5 rfl (lv_at hl 2 rfl) ?_
  refine va_get (D := D) (ci := 2) (v := .int lb) (C := "WrongHole$Lift") (T := TX2) (N := 19) hx hb hts (iq_RX2 _) hown hK hP 0 rfl rfl 0 (by decide) (hT _ qq_2_29) (fun _ h9 => h9) rfl dX2_worthOf_6 ?_
  refine lv_icmp_ge (tgt := 39) hx hb dX2_worthOf_9 (by decide) (fun c_350 => ?_) (fun c_350 => ?_)
  · refine lv_iload_n hx hb dX2_worthOf_39 rfl (lv_at hl 1 rfl) ?_
    exact W.iret (v := v_35) hx hb hr (fun t9 ht9 hW9 => ⟨⟨_, rfl, _, rfl⟩, ht9.trans hHe⟩) (fun _ h9 => by rw [hlc] at h9; exact absurd h9 List.not_mem_nil) dX2_worthOf_40
  · have r_351 : Rg 0 7 v_34 := Rg.lt_l (nle_lt c_350) r_349 r_lb (by decide)
    have r_352 : Rg 1 8 lb := Rg.lt_r (nle_lt c_350) r_349 r_lb (by decide)
    refine lv_iload_n hx hb dX2_worthOf_12 rfl (lv_at hl 1 rfl) ?_
    refine lv_iload_n hx hb dX2_worthOf_13 rfl (lv_at hl 3 rfl) ?_
    refine lv_iload_n hx hb dX2_worthOf_14 rfl (lv_at hl 0 rfl) ?_
    refine lv_ishr hx hb dX2_worthOf_15 ?_
    refine lv_topi (fun x_371 e_372 => ?_)
    refine lv_iconst (v := 1) hx hb dX2_worthOf_16 (by decide) ?_
    refine lv_iand hx hb dX2_worthOf_17 ?_
    refine lv_topi (fun x_373 e_374 => ?_)
    have r_375 : Rg 0 1 x_373 := Rg.and e_374 (Rg.c (c := 1) (k := 1) rfl) (by decide)
    refine w_cut (σ := (Int32)) (fun (v_381 : Int32) H locs ls => H = s.heap ∧ locs = [] ∧ va_P D vwCl [(hl0, .inr (2, [.int lb, .int lh, .int lg, .int lw, .int lv, .int lbs, .int lti, .int lts, .int le, .int lk, .int la, .ref l0, .ref l1, .ref l2, .ref l3, .ref l4, .ref l5, .ref l6, .ref l7])), (l4, .inl ((cs 0), 8, .inl f4))] H ∧ lv_has ls 4 [(3, .int v_34), (2, .int v_35), (0, .ref hl0), (1, .int a)]) 31 (fun (v_381 : Int32) => [.int v_381, .int v_35]) ?_ (fun hj_382 => ?_)
    · rintro v_381 H locs ls ⟨hHe, hlc, hP, hl⟩
      refine lv_iadd hx hb dX2_worthOf_31 ?_
      refine lv_topi (fun x_383 e_384 => ?_)
      refine lv_istore_n (lv' := [(2, .int x_383), (3, .int v_34), (0, .ref hl0), (1, .int a)]) hx hb dX2_worthOf_32 rfl hl (by decide) rfl (fun ls hl => ?_)
      obtain ⟨x_385, e_386⟩ : ∃ z : Int32, z = v_34 + Int32.ofInt 1 := ⟨_, rfl⟩
      have r_387 : Rg 1 8 x_385 := Rg.add e_386 r_351 (Rg.c (c := Int32.ofInt 1) (k := 1) rfl) (by decide)
      refine lv_iinc (v := x_385) (lv' := [(3, .int x_385), (2, .int x_383), (0, .ref hl0), (1, .int a)]) hx hb dX2_worthOf_33 hl (k := 1) rfl (e_386.symm) (by decide) rfl (fun ls hl => ?_)
      refine lv_goto (tgt := 4) hx hb dX2_worthOf_36 (by decide) ?_
      exact ih_348 (x_385, x_383) _ _ _ ⟨(Rg.wk (lo2 := 0) (hi2 := 8) r_387 (by decide)), hHe, hlc, hP, lv_sub hl [0, 1, 2, 3] rfl⟩ (ms_up e_386 r_351 (Rg.c (c := Int32.ofInt 1) (k := 1) rfl) (by decide))
    · refine lv_if_eq (tgt := 30) hx hb dX2_worthOf_18 (by decide) (fun c_376 => ?_) (fun c_376 => ?_)
      · have r_377 : Rg 0 0 x_373 := Rg.eq_l c_376 r_375 (Rg.c (c := 0) (k := 0) rfl) (by decide)
        refine lv_iconst (v := 0) hx hb dX2_worthOf_30 (by decide) ?_
        exact hj_382 0 _ _ _ ⟨hHe, hlc, hP, lv_sub hl [0, 1, 2, 3] rfl⟩
      · have r_378 : Rg 1 1 x_373 := Rg.ne c_376 r_375 (Rg.c (c := 0) (k := 0) rfl) (by decide)
        refine lv_aload_n hx hb dX2_worthOf_21 rfl (lv_at hl 2 rfl) ?_
        refine va_get (D := D) (ci := 2) (v := .ref l4) (C := "WrongHole$Lift") (T := TX2) (N := 19) hx hb hts (iq_RX2 _) hown hK hP 0 rfl rfl 15 (by decide) (hT _ qq_2_76) (fun _ h9 => h9) rfl dX2_worthOf_22 ?_
        refine lv_iload_n hx hb dX2_worthOf_25 rfl (lv_at hl 0 rfl) ?_
        have hi_388 : vp_in v_34 8 := Rg.in r_351 (by decide)
        refine va_iald hx hb hK hP 1 0 rfl rfl hi_388 dX2_worthOf_26 ?_
        refine lv_topi (fun x_389 e_390 => ?_)
        refine lv_goto (tgt := 31) hx hb dX2_worthOf_27 (by decide) ?_
        exact hj_382 x_389 _ _ _ ⟨hHe, hlc, hP, lv_sub hl [0, 1, 2, 3] rfl⟩
