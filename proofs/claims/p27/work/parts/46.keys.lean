set_option maxHeartbeats 4000000 in
set_option maxRecDepth 100000 in
theorem c_Rows_in_x (l : Launch) (D : va_G) (cs : Nat → ClassId) (a : Int32) (r_a : Rg 0 65535 a) : Met l yX6_in (Cond.code yX6_in cX6_in 1 (some .int) :: TB) (RM 0 0 0) (va_Pc [.int a] (PRR D cs [])) (k2_QcV (.int (nI (cN a / 256)))) 0 0 (fun _ => False) := by
  refine MER (y := yX6_in) (cc := cX6_in) (maxL := 1) (ret := (some .int)) (d := 0) (D := D) (cs := cs) (ws := []) (av := [.int a]) (Qc := k2_QcV (.int (nI (cN a / 256)))) (by decide) (Nat.le_of_ble_eq_true rfl) ?_
  intro p e s m below meth c ls H hHe hx hb hr hml hown hts hlocks hP hK hN hl
  obtain ⟨locs, hlc⟩ : ∃ z : List Loc, z = [] := ⟨_, rfl⟩
  rw [← hlc]
  have hown : s.vm.findClass "WrongHole$Rows" = some m.cls := hown
  have hT : ∀ w ∈ TB, w.before ([.int a] : List Value).toArray s = true := fun w h => hts w (List.mem_cons_of_mem _ h)
  have hl : lv_has ls 1 [(0, .int a)] := hl
  have hP : va_P D vwCl [] H := hP
  refine lv_iload_n hx hb dX6_in_0 rfl (lv_at hl 0 rfl) ?_
  refine lv_bipush (v := 8) hx hb dX6_in_1 (by decide) ?_
  refine lv_ishr hx hb dX6_in_3 ?_
  refine lv_topi (fun x_1 e_2 => ?_)
  have r_3 : Rg 0 255 x_1 := Rg.shr (k := 8) e_2 r_a rfl (by decide)
  refine lv_sipush (v := 255) hx hb dX6_in_4 (by decide) ?_
  refine lv_iand hx hb dX6_in_7 ?_
  refine lv_topi (fun x_4 e_5 => ?_)
  have r_6 : Rg 0 255 x_4 := Rg.and e_5 (Rg.c (c := 255) (k := 255) rfl) (by decide)
  exact W.iret (v := x_4) hx hb hr (fun t9 ht9 hW9 => ⟨by rw [show (.int (nI (cN a / 256)) : Value) = .int x_4 from (congrArg Value.int (k_in e_2 e_5 r_a).symm)], ht9.trans hHe⟩) (fun _ h9 => by rw [hlc] at h9; exact absurd h9 List.not_mem_nil) dX6_in_8
set_option maxHeartbeats 4000000 in
set_option maxRecDepth 100000 in
theorem c_Rows_held_x (l : Launch) (D : va_G) (cs : Nat → ClassId) (a : Int32) (r_a : Rg 0 65535 a) : Met l yX6_held (Cond.code yX6_held cX6_held 1 (some .int) :: TB) (RM 0 0 0) (va_Pc [.int a] (PRR D cs [])) (k2_QcV (.int (nI (cN a % 256)))) 0 0 (fun _ => False) := by
  refine MER (y := yX6_held) (cc := cX6_held) (maxL := 1) (ret := (some .int)) (d := 0) (D := D) (cs := cs) (ws := []) (av := [.int a]) (Qc := k2_QcV (.int (nI (cN a % 256)))) (by decide) (Nat.le_of_ble_eq_true rfl) ?_
  intro p e s m below meth c ls H hHe hx hb hr hml hown hts hlocks hP hK hN hl
  obtain ⟨locs, hlc⟩ : ∃ z : List Loc, z = [] := ⟨_, rfl⟩
  rw [← hlc]
  have hown : s.vm.findClass "WrongHole$Rows" = some m.cls := hown
  have hT : ∀ w ∈ TB, w.before ([.int a] : List Value).toArray s = true := fun w h => hts w (List.mem_cons_of_mem _ h)
  have hl : lv_has ls 1 [(0, .int a)] := hl
  have hP : va_P D vwCl [] H := hP
  refine lv_iload_n hx hb dX6_held_0 rfl (lv_at hl 0 rfl) ?_
  refine lv_sipush (v := 255) hx hb dX6_held_1 (by decide) ?_
  refine lv_iand hx hb dX6_held_4 ?_
  refine lv_topi (fun x_1 e_2 => ?_)
  have r_3 : Rg 0 255 x_1 := Rg.and e_2 (Rg.c (c := 255) (k := 255) rfl) (by decide)
  exact W.iret (v := x_1) hx hb hr (fun t9 ht9 hW9 => ⟨by rw [show (.int (nI (cN a % 256)) : Value) = .int x_1 from (congrArg Value.int (k_held e_2 r_a).symm)], ht9.trans hHe⟩) (fun _ h9 => by rw [hlc] at h9; exact absurd h9 List.not_mem_nil) dX6_held_5
set_option maxHeartbeats 4000000 in
set_option maxRecDepth 100000 in
theorem c_Rows_below_x (l : Launch) (D : va_G) (cs : Nat → ClassId) (a : Int32) (r_a : Rg 0 8 a) : Met l yX6_below (Cond.code yX6_below cX6_below 1 (some .int) :: TB) (RM 0 0 0) (va_Pc [.int a] (PRR D cs [])) (k2_QcV (.int (nI (2 ^ cN a - 1)))) 0 0 (fun _ => False) := by
  refine MER (y := yX6_below) (cc := cX6_below) (maxL := 1) (ret := (some .int)) (d := 0) (D := D) (cs := cs) (ws := []) (av := [.int a]) (Qc := k2_QcV (.int (nI (2 ^ cN a - 1)))) (by decide) (Nat.le_of_ble_eq_true rfl) ?_
  intro p e s m below meth c ls H hHe hx hb hr hml hown hts hlocks hP hK hN hl
  obtain ⟨locs, hlc⟩ : ∃ z : List Loc, z = [] := ⟨_, rfl⟩
  rw [← hlc]
  have hown : s.vm.findClass "WrongHole$Rows" = some m.cls := hown
  have hT : ∀ w ∈ TB, w.before ([.int a] : List Value).toArray s = true := fun w h => hts w (List.mem_cons_of_mem _ h)
  have hl : lv_has ls 1 [(0, .int a)] := hl
  have hP : va_P D vwCl [] H := hP
  refine lv_iconst (v := 1) hx hb dX6_below_0 (by decide) ?_
  refine lv_iload_n hx hb dX6_below_1 rfl (lv_at hl 0 rfl) ?_
  refine lv_ishl hx hb dX6_below_2 ?_
  refine lv_topi (fun x_1 e_2 => ?_)
  have r_3 : Rg 0 256 x_1 := Rg.shl (ha := 1) (k := 8) e_2 (Rg.wk (Rg.c (c := 1) (k := 1) rfl) (by decide)) (Rg.wk r_a (by decide)) (by decide) (by decide)
  refine lv_iconst (v := 1) hx hb dX6_below_3 (by decide) ?_
  refine lv_isub hx hb dX6_below_4 ?_
  refine lv_topi (fun x_4 e_5 => ?_)
  have r_6 : Rg (-1) 255 x_4 := Rg.sub e_5 r_3 (Rg.c (c := 1) (k := 1) rfl) (by decide)
  exact W.iret (v := x_4) hx hb hr (fun t9 ht9 hW9 => ⟨by rw [show (.int (nI (2 ^ cN a - 1)) : Value) = .int x_4 from (congrArg Value.int (bel_x e_2 e_5 r_a).symm)], ht9.trans hHe⟩) (fun _ h9 => by rw [hlc] at h9; exact absurd h9 List.not_mem_nil) dX6_below_5
set_option maxHeartbeats 4000000 in
set_option maxRecDepth 100000 in
theorem c_Rows_buttonOf_x (l : Launch) (D : va_G) (cs : Nat → ClassId) (a : Int32) (r_a : Rg 0 127 a) : Met l yX6_buttonOf (Cond.code yX6_buttonOf cX6_buttonOf 1 (some .int) :: TB) (RM 0 0 0) (va_Pc [.int a] (PRR D cs [])) (k2_QcV (.int (nI (cN a / 8 % 8)))) 0 0 (fun _ => False) := by
  refine MER (y := yX6_buttonOf) (cc := cX6_buttonOf) (maxL := 1) (ret := (some .int)) (d := 0) (D := D) (cs := cs) (ws := []) (av := [.int a]) (Qc := k2_QcV (.int (nI (cN a / 8 % 8)))) (by decide) (Nat.le_of_ble_eq_true rfl) ?_
  intro p e s m below meth c ls H hHe hx hb hr hml hown hts hlocks hP hK hN hl
  obtain ⟨locs, hlc⟩ : ∃ z : List Loc, z = [] := ⟨_, rfl⟩
  rw [← hlc]
  have hown : s.vm.findClass "WrongHole$Rows" = some m.cls := hown
  have hT : ∀ w ∈ TB, w.before ([.int a] : List Value).toArray s = true := fun w h => hts w (List.mem_cons_of_mem _ h)
  have hl : lv_has ls 1 [(0, .int a)] := hl
  have hP : va_P D vwCl [] H := hP
  refine lv_iload_n hx hb dX6_buttonOf_0 rfl (lv_at hl 0 rfl) ?_
  refine lv_iconst (v := 3) hx hb dX6_buttonOf_1 (by decide) ?_
  refine lv_ishr hx hb dX6_buttonOf_2 ?_
  refine lv_topi (fun x_1 e_2 => ?_)
  have r_3 : Rg 0 15 x_1 := Rg.shr (k := 3) e_2 r_a rfl (by decide)
  refine lv_bipush (v := 7) hx hb dX6_buttonOf_3 (by decide) ?_
  refine lv_iand hx hb dX6_buttonOf_5 ?_
  refine lv_topi (fun x_4 e_5 => ?_)
  have r_6 : Rg 0 7 x_4 := Rg.and e_5 (Rg.c (c := 7) (k := 7) rfl) (by decide)
  exact W.iret (v := x_4) hx hb hr (fun t9 ht9 hW9 => ⟨by rw [show (.int (nI (cN a / 8 % 8)) : Value) = .int x_4 from (congrArg Value.int (bo_x e_2 e_5 r_a).symm)], ht9.trans hHe⟩) (fun _ h9 => by rw [hlc] at h9; exact absurd h9 List.not_mem_nil) dX6_buttonOf_6
set_option maxHeartbeats 4000000 in
set_option maxRecDepth 100000 in
theorem c_Rows_actOf_0 (l : Launch) (D : va_G) (cs : Nat → ClassId) (b : Int32) (h : Int32) (r_b : Rg 0 7 b) (r_h : Rg 0 7 h) : Met l yX6_actOf (Cond.code yX6_actOf cX6_actOf 3 (some .int) :: TB) (RM 0 0 0) (va_Pc [.int 0, .int b, .int h] (PRR D cs [])) (k2_QcV (.int (nI (64 * 0 + 8 * cN b + cN h)))) 0 0 (fun _ => False) := by
  refine MER (y := yX6_actOf) (cc := cX6_actOf) (maxL := 3) (ret := (some .int)) (d := 0) (D := D) (cs := cs) (ws := []) (av := [.int 0, .int b, .int h]) (Qc := k2_QcV (.int (nI (64 * 0 + 8 * cN b + cN h)))) (by decide) (Nat.le_of_ble_eq_true rfl) ?_
  intro p e s m below meth c ls H hHe hx hb hr hml hown hts hlocks hP hK hN hl
  obtain ⟨locs, hlc⟩ : ∃ z : List Loc, z = [] := ⟨_, rfl⟩
  rw [← hlc]
  have hown : s.vm.findClass "WrongHole$Rows" = some m.cls := hown
  have hT : ∀ w ∈ TB, w.before ([.int 0, .int b, .int h] : List Value).toArray s = true := fun w h => hts w (List.mem_cons_of_mem _ h)
  have hl : lv_has ls 3 [(0, .int 0), (1, .int b), (2, .int h)] := hl
  have hP : va_P D vwCl [] H := hP
  refine lv_iload_n hx hb dX6_actOf_0 rfl (lv_at hl 0 rfl) ?_
  refine lv_bipush (v := 6) hx hb dX6_actOf_1 (by decide) ?_
  refine lv_ishl hx hb dX6_actOf_3 ?_
  refine tc_i 0 (by decide) ?_
  refine lv_iload_n hx hb dX6_actOf_4 rfl (lv_at hl 1 rfl) ?_
  refine lv_iconst (v := 3) hx hb dX6_actOf_5 (by decide) ?_
  refine lv_ishl hx hb dX6_actOf_6 ?_
  refine lv_topi (fun x_1 e_2 => ?_)
  have r_3 : Rg 0 56 x_1 := Rg.shl (ha := 7) (k := 3) e_2 (Rg.wk r_b (by decide)) (Rg.wk (Rg.c (c := 3) (k := 3) rfl) (by decide)) (by decide) (by decide)
  refine lv_ior hx hb dX6_actOf_7 ?_
  refine lv_topi (fun x_4 e_5 => ?_)
  have r_6 : Rg 0 63 x_4 := Rg.or (k := 6) e_5 (Rg.c (c := 0) (k := 0) rfl) r_3 (by decide) (by decide)
  refine lv_iload_n hx hb dX6_actOf_8 rfl (lv_at hl 2 rfl) ?_
  refine lv_ior hx hb dX6_actOf_9 ?_
  refine lv_topi (fun x_7 e_8 => ?_)
  have r_9 : Rg 0 63 x_7 := Rg.or (k := 6) e_8 r_6 r_h (by decide) (by decide)
  exact W.iret (v := x_7) hx hb hr (fun t9 ht9 hW9 => ⟨by rw [show (.int (nI (64 * 0 + 8 * cN b + cN h)) : Value) = .int x_7 from (congrArg Value.int (act_x (d := 0) (dd := 0) (by decide) rfl rfl e_2 e_5 e_8 r_b r_h).symm)], ht9.trans hHe⟩) (fun _ h9 => by rw [hlc] at h9; exact absurd h9 List.not_mem_nil) dX6_actOf_10
set_option maxHeartbeats 4000000 in
set_option maxRecDepth 100000 in
theorem c_Rows_actOf_1 (l : Launch) (D : va_G) (cs : Nat → ClassId) (b : Int32) (h : Int32) (r_b : Rg 0 7 b) (r_h : Rg 0 7 h) : Met l yX6_actOf (Cond.code yX6_actOf cX6_actOf 3 (some .int) :: TB) (RM 0 0 0) (va_Pc [.int 1, .int b, .int h] (PRR D cs [])) (k2_QcV (.int (nI (64 * 1 + 8 * cN b + cN h)))) 0 0 (fun _ => False) := by
  refine MER (y := yX6_actOf) (cc := cX6_actOf) (maxL := 3) (ret := (some .int)) (d := 0) (D := D) (cs := cs) (ws := []) (av := [.int 1, .int b, .int h]) (Qc := k2_QcV (.int (nI (64 * 1 + 8 * cN b + cN h)))) (by decide) (Nat.le_of_ble_eq_true rfl) ?_
  intro p e s m below meth c ls H hHe hx hb hr hml hown hts hlocks hP hK hN hl
  obtain ⟨locs, hlc⟩ : ∃ z : List Loc, z = [] := ⟨_, rfl⟩
  rw [← hlc]
  have hown : s.vm.findClass "WrongHole$Rows" = some m.cls := hown
  have hT : ∀ w ∈ TB, w.before ([.int 1, .int b, .int h] : List Value).toArray s = true := fun w h => hts w (List.mem_cons_of_mem _ h)
  have hl : lv_has ls 3 [(0, .int 1), (1, .int b), (2, .int h)] := hl
  have hP : va_P D vwCl [] H := hP
  refine lv_iload_n hx hb dX6_actOf_0 rfl (lv_at hl 0 rfl) ?_
  refine lv_bipush (v := 6) hx hb dX6_actOf_1 (by decide) ?_
  refine lv_ishl hx hb dX6_actOf_3 ?_
  refine tc_i 64 (by decide) ?_
  refine lv_iload_n hx hb dX6_actOf_4 rfl (lv_at hl 1 rfl) ?_
  refine lv_iconst (v := 3) hx hb dX6_actOf_5 (by decide) ?_
  refine lv_ishl hx hb dX6_actOf_6 ?_
  refine lv_topi (fun x_1 e_2 => ?_)
  have r_3 : Rg 0 56 x_1 := Rg.shl (ha := 7) (k := 3) e_2 (Rg.wk r_b (by decide)) (Rg.wk (Rg.c (c := 3) (k := 3) rfl) (by decide)) (by decide) (by decide)
  refine lv_ior hx hb dX6_actOf_7 ?_
  refine lv_topi (fun x_4 e_5 => ?_)
  have r_6 : Rg 0 127 x_4 := Rg.or (k := 7) e_5 (Rg.wk (lo2 := 0) (hi2 := 64) (Rg.c (c := 64) (k := 64) rfl) (by decide)) r_3 (by decide) (by decide)
  refine lv_iload_n hx hb dX6_actOf_8 rfl (lv_at hl 2 rfl) ?_
  refine lv_ior hx hb dX6_actOf_9 ?_
  refine lv_topi (fun x_7 e_8 => ?_)
  have r_9 : Rg 0 127 x_7 := Rg.or (k := 7) e_8 r_6 r_h (by decide) (by decide)
  exact W.iret (v := x_7) hx hb hr (fun t9 ht9 hW9 => ⟨by rw [show (.int (nI (64 * 1 + 8 * cN b + cN h)) : Value) = .int x_7 from (congrArg Value.int (act_x (d := 1) (dd := 1) (by decide) rfl rfl e_2 e_5 e_8 r_b r_h).symm)], ht9.trans hHe⟩) (fun _ h9 => by rw [hlc] at h9; exact absurd h9 List.not_mem_nil) dX6_actOf_10
set_option maxHeartbeats 4000000 in
set_option maxRecDepth 100000 in
theorem c_Rows_placeOf_x (l : Launch) (D : va_G) (cs : Nat → ClassId) (a : Int32) (b : Int32) (r_a : Rg 0 255 a) (r_b : Rg 0 8 b) (hlt : cN b < pc (cN a)) : Met l yX6_placeOf (Cond.code yX6_placeOf cX6_placeOf 3 (some .int) :: TB) (RM 1 0 0) (va_Pc [.int a, .int b] (PRR D cs [])) (QP (fun v => ∃ x : Int32, v = .int x ∧ Rg 0 7 x ∧ bt (cN a) (cN x) = 1)) 0 0 (fun _ => False) := by
  refine MER (y := yX6_placeOf) (cc := cX6_placeOf) (maxL := 3) (ret := (some .int)) (d := 1) (D := D) (cs := cs) (ws := []) (av := [.int a, .int b]) (Qc := QP (fun v => ∃ x : Int32, v = .int x ∧ Rg 0 7 x ∧ bt (cN a) (cN x) = 1)) (by decide) (Nat.le_of_ble_eq_true rfl) ?_
  intro p e s m below meth c ls H hHe hx hb hr hml hown hts hlocks hP hK hN hl
  obtain ⟨locs, hlc⟩ : ∃ z : List Loc, z = [] := ⟨_, rfl⟩
  rw [← hlc]
  have hown : s.vm.findClass "WrongHole$Rows" = some m.cls := hown
  have hT : ∀ w ∈ TB, w.before ([.int a, .int b] : List Value).toArray s = true := fun w h => hts w (List.mem_cons_of_mem _ h)
  have hl : lv_has ls 3 [(0, .int a), (1, .int b)] := hl
  have hP : va_P D vwCl [] H := hP
  refine lv_iconst (v := 0) hx hb dX6_placeOf_0 (by decide) ?_
  refine lv_istore_n (lv' := [(2, .int 0), (0, .int a), (1, .int b)]) hx hb dX6_placeOf_1 rfl hl (by decide) rfl (fun ls hl => ?_)
  refine w_wh (σ := (Int32)) (fun (v_21 : Int32) H locs ls => Rg 0 8 v_21 ∧ (∀ j, j < cN v_21 → ¬ (bt (cN a) j = 1 ∧ pc (cN a % 2 ^ j) = cN b)) ∧ H = s.heap ∧ locs = [] ∧ va_P D vwCl [] H ∧ lv_has ls 3 [(2, .int v_21), (0, .int a), (1, .int b)]) (fun (v_21 : Int32) => (8 - Int32.toInt v_21).toNat) 2 ?_ 0 H locs ls ⟨(Rg.wk (lo2 := 0) (hi2 := 8) (Rg.c (c := 0) (k := 0) rfl) (by decide)), (fun j hj => absurd hj (Nat.not_lt_zero j)), hHe, hlc, hP, lv_sub hl [0, 1, 2] rfl⟩
  rintro v_21 H locs ls ⟨r_135, iv_136, hHe, hlc, hP, hl⟩ ih_134
  refine lv_iload_n hx hb dX6_placeOf_2 rfl (lv_at hl 0 rfl) ?_
  refine lv_bipush (v := 8) hx hb dX6_placeOf_3 (by decide) ?_
  refine lv_icmp_ge (tgt := 37) hx hb dX6_placeOf_5 (by decide) (fun c_137 => ?_) (fun c_137 => ?_)
  · have r_138 : Rg 8 8 v_21 := Rg.le_r c_137 (Rg.c (c := 8) (k := 8) rfl) r_135 (by decide)
    exact (pl_end iv_136 c_137 (Rg.wk (lo2 := 0) (hi2 := 8) r_138 (by decide)) r_a hlt).elim
  · have r_139 : Rg 0 7 v_21 := Rg.lt_l (nle_lt c_137) r_135 (Rg.c (c := 8) (k := 8) rfl) (by decide)
    refine lv_iload_n hx hb dX6_placeOf_8 rfl (lv_at hl 1 rfl) ?_
    refine lv_iload_n hx hb dX6_placeOf_9 rfl (lv_at hl 0 rfl) ?_
    refine lv_ishr hx hb dX6_placeOf_10 ?_
    refine lv_topi (fun x_140 e_141 => ?_)
    have r_142 : Rg 0 255 x_140 := Rg.shrn e_141 r_a
    refine lv_iconst (v := 1) hx hb dX6_placeOf_11 (by decide) ?_
    refine lv_iand hx hb dX6_placeOf_12 ?_
    refine lv_topi (fun x_143 e_144 => ?_)
    have r_145 : Rg 0 1 x_143 := Rg.and e_144 (Rg.c (c := 1) (k := 1) rfl) (by decide)
    refine lv_if_eq (tgt := 31) hx hb dX6_placeOf_13 (by decide) (fun c_146 => ?_) (fun c_146 => ?_)
    · have r_147 : Rg 0 0 x_143 := Rg.eq_l c_146 r_145 (Rg.c (c := 0) (k := 0) rfl) (by decide)
      obtain ⟨x_149, e_150⟩ : ∃ z : Int32, z = v_21 + Int32.ofInt 1 := ⟨_, rfl⟩
      have r_151 : Rg 1 8 x_149 := Rg.add e_150 r_139 (Rg.c (c := Int32.ofInt 1) (k := 1) rfl) (by decide)
      refine lv_iinc (v := x_149) (lv' := [(2, .int x_149), (0, .int a), (1, .int b)]) hx hb dX6_placeOf_31 hl (k := 0) rfl (e_150.symm) (by decide) rfl (fun ls hl => ?_)
      refine lv_goto (tgt := 2) hx hb dX6_placeOf_34 (by decide) ?_
      exact ih_134 x_149 _ _ _ ⟨(Rg.wk (lo2 := 0) (hi2 := 8) r_151 (by decide)), (pl_nx (hi := 0) iv_136 (fun h9 => by have h8 := (bt_0 e_144 e_141 r_a r_139 (by decide) c_146); have h7 := h9.1; omega) (cN_add (k := 1) e_150 r_139 (Rg.c (c := Int32.ofInt 1) (k := 1) rfl) (by decide))), hHe, hlc, hP, lv_sub hl [0, 1, 2] rfl⟩ (ms_up e_150 r_139 (Rg.c (c := Int32.ofInt 1) (k := 1) rfl) (by decide))
    · have r_148 : Rg 1 1 x_143 := Rg.ne c_146 r_145 (Rg.c (c := 0) (k := 0) rfl) (by decide)
      refine lv_iload_n hx hb dX6_placeOf_16 rfl (lv_at hl 1 rfl) ?_
      refine lv_iload_n hx hb dX6_placeOf_17 rfl (lv_at hl 0 rfl) ?_
      have hPc := va_P.sub (ws' := []) hP [] rfl
      refine cl_V (W.runS (As := [.int v_21]) (rest := [.int a]) ⟨hx, hb, hml, hown, hts⟩ (c_Rows_below_x l D cs v_21 (Rg.wk (lo2 := 0) (hi2 := 8) r_139 (by decide))) ⟨callB_of 1 hts (gd_C qq_3_23) rfl rfl rfl (hT _ qq_1_16) (hT _ qq_3_21) (by decide +kernel) (rm_R rfl rfl), (hT _ qq_3_22)⟩ (pq_S hPc hK hN) rfl rfl hl.1 rfl (lv_room (Nat.le_of_ble_eq_true rfl)) dX6_placeOf_18 ⟨Nat.le_of_ble_eq_true rfl, Nat.le_of_ble_eq_true rfl⟩) ?_
      refine lv_topi (fun x_152 e_153 => ?_)
      have r_154 : Rg 0 255 x_152 := Rg.of e_153 (bel_rg (Rg.wk (lo2 := 0) (hi2 := 8) r_139 (by decide)))
      refine lv_iand hx hb dX6_placeOf_21 ?_
      refine lv_topi (fun x_155 e_156 => ?_)
      have r_157 : Rg 0 255 x_155 := Rg.and e_156 r_154 (by decide)
      have hPc := va_P.sub (ws' := []) hP [] rfl
      refine cl_V (W.runS (As := [.int x_155]) (rest := []) ⟨hx, hb, hml, hown, hts⟩ (c_bitCount_x l D cs x_155 r_157) ⟨callB_of 1 hts (gd_C qq_3_26) rfl rfl rfl (hT _ qq_1_17) (hT _ qq_3_24) (by decide +kernel) (rm_R rfl rfl), (hT _ qq_3_25)⟩ (pq_S hPc hK hN) rfl rfl hl.1 rfl (lv_room (Nat.le_of_ble_eq_true rfl)) dX6_placeOf_22 ⟨Nat.le_of_ble_eq_true rfl, Nat.le_of_ble_eq_true rfl⟩) ?_
      refine lv_topi (fun x_158 e_159 => ?_)
      have r_160 : Rg 0 8 x_158 := Rg.of e_159 (pc_rg _)
      refine lv_iload_n hx hb dX6_placeOf_25 rfl (lv_at hl 2 rfl) ?_
      refine lv_icmp_ne (tgt := 31) hx hb dX6_placeOf_26 (by decide) (fun c_161 => ?_) (fun c_161 => ?_)
      · obtain ⟨x_162, e_163⟩ : ∃ z : Int32, z = v_21 + Int32.ofInt 1 := ⟨_, rfl⟩
        have r_164 : Rg 1 8 x_162 := Rg.add e_163 r_139 (Rg.c (c := Int32.ofInt 1) (k := 1) rfl) (by decide)
        refine lv_iinc (v := x_162) (lv' := [(2, .int x_162), (0, .int a), (1, .int b)]) hx hb dX6_placeOf_31 hl (k := 0) rfl (e_163.symm) (by decide) rfl (fun ls hl => ?_)
        refine lv_goto (tgt := 2) hx hb dX6_placeOf_34 (by decide) ?_
        exact ih_134 x_162 _ _ _ ⟨(Rg.wk (lo2 := 0) (hi2 := 8) r_164 (by decide)), (pl_nx (hi := 0) iv_136 (pl_nb c_161 e_159 e_156 e_153 r_a (Rg.wk (lo2 := 0) (hi2 := 8) r_139 (by decide)) r_b) (cN_add (k := 1) e_163 r_139 (Rg.c (c := Int32.ofInt 1) (k := 1) rfl) (by decide))), hHe, hlc, hP, lv_sub hl [0, 1, 2] rfl⟩ (ms_up e_163 r_139 (Rg.c (c := Int32.ofInt 1) (k := 1) rfl) (by decide))
      · refine lv_iload_n hx hb dX6_placeOf_29 rfl (lv_at hl 0 rfl) ?_
        exact W.iret (v := v_21) hx hb hr (fun t9 ht9 hW9 => ⟨⟨_, rfl, _, rfl, ⟨r_139, (bt_1 e_144 e_141 r_a r_139 (by decide) c_146)⟩⟩, ht9.trans hHe⟩) (fun _ h9 => by rw [hlc] at h9; exact absurd h9 List.not_mem_nil) dX6_placeOf_30
set_option maxHeartbeats 4000000 in
set_option maxRecDepth 100000 in
theorem c_Rows_holeOf_x (l : Launch) (D : va_G) (cs : Nat → ClassId) (a : Int32) (b : Int32) (r_b : Rg 0 7 b) (hbk : BK a) (hbi : bt (cN a / 256) (cN b) = 1) : Met l yX6_holeOf (Cond.code yX6_holeOf cX6_holeOf 2 (some .int) :: TB) (RM 2 0 0) (va_Pc [.int a, .int b] (PRR D cs [])) (QP (fun v => ∃ x : Int32, v = .int x ∧ Rg 0 7 x ∧ bt (cN a % 256) (cN x) = 1)) 0 0 (fun _ => False) := by
  refine MER (y := yX6_holeOf) (cc := cX6_holeOf) (maxL := 2) (ret := (some .int)) (d := 2) (D := D) (cs := cs) (ws := []) (av := [.int a, .int b]) (Qc := QP (fun v => ∃ x : Int32, v = .int x ∧ Rg 0 7 x ∧ bt (cN a % 256) (cN x) = 1)) (by decide) (Nat.le_of_ble_eq_true rfl) ?_
  intro p e s m below meth c ls H hHe hx hb hr hml hown hts hlocks hP hK hN hl
  obtain ⟨locs, hlc⟩ : ∃ z : List Loc, z = [] := ⟨_, rfl⟩
  rw [← hlc]
  have hown : s.vm.findClass "WrongHole$Rows" = some m.cls := hown
  have hT : ∀ w ∈ TB, w.before ([.int a, .int b] : List Value).toArray s = true := fun w h => hts w (List.mem_cons_of_mem _ h)
  have hl : lv_has ls 2 [(0, .int a), (1, .int b)] := hl
  have hP : va_P D vwCl [] H := hP
  refine lv_iload_n hx hb dX6_holeOf_0 rfl (lv_at hl 0 rfl) ?_
  have hPc := va_P.sub (ws' := []) hP [] rfl
  refine cl_V (W.runS (As := [.int a]) (rest := []) ⟨hx, hb, hml, hown, hts⟩ (c_Rows_in_x l D cs a hbk.1) ⟨callB_of 1 hts (gd_C qq_2_230) rfl rfl rfl (hT _ qq_1_16) (hT _ qq_3_20) (by decide +kernel) (rm_R rfl rfl), (hT _ qq_2_229)⟩ (pq_S hPc hK hN) rfl rfl hl.1 rfl (lv_room (Nat.le_of_ble_eq_true rfl)) dX6_holeOf_1 ⟨Nat.le_of_ble_eq_true rfl, Nat.le_of_ble_eq_true rfl⟩) ?_
  refine lv_topi (fun x_1 e_2 => ?_)
  have r_3 : Rg 0 255 x_1 := Rg.of e_2 (rg_in hbk.1)
  refine lv_iload_n hx hb dX6_holeOf_4 rfl (lv_at hl 1 rfl) ?_
  refine lv_ishr hx hb dX6_holeOf_5 ?_
  refine lv_topi (fun x_4 e_5 => ?_)
  have r_6 : Rg 0 255 x_4 := Rg.shrn e_5 r_3
  refine lv_iconst (v := 1) hx hb dX6_holeOf_6 (by decide) ?_
  refine lv_iand hx hb dX6_holeOf_7 ?_
  refine lv_topi (fun x_7 e_8 => ?_)
  have r_9 : Rg 0 1 x_7 := Rg.and e_8 (Rg.c (c := 1) (k := 1) rfl) (by decide)
  refine lv_if_ne (tgt := 13) hx hb dX6_holeOf_8 (by decide) (fun c_10 => ?_) (fun c_10 => False.elim ((by have h9 := bt_0 e_8 e_5 r_3 r_b (by decide) c_10; rw [c_in e_2 hbk.1, hbi] at h9; exact absurd h9 (by decide))))
  refine lv_iload_n hx hb dX6_holeOf_13 rfl (lv_at hl 0 rfl) ?_
  have hPc := va_P.sub (ws' := []) hP [] rfl
  refine cl_V (W.runS (As := [.int a]) (rest := []) ⟨hx, hb, hml, hown, hts⟩ (c_Rows_held_x l D cs a hbk.1) ⟨callB_of 1 hts (gd_C qq_3_0) rfl rfl rfl (hT _ qq_1_16) (hT _ qq_3_30) (by decide +kernel) (rm_R rfl rfl), (hT _ qq_2_239)⟩ (pq_S hPc hK hN) rfl rfl hl.1 rfl (lv_room (Nat.le_of_ble_eq_true rfl)) dX6_holeOf_14 ⟨Nat.le_of_ble_eq_true rfl, Nat.le_of_ble_eq_true rfl⟩) ?_
  refine lv_topi (fun x_11 e_12 => ?_)
  have r_13 : Rg 0 255 x_11 := Rg.of e_12 (rg_held _)
  refine lv_iload_n hx hb dX6_holeOf_17 rfl (lv_at hl 0 rfl) ?_
  have hPc := va_P.sub (ws' := []) hP [] rfl
  refine cl_V (W.runS (As := [.int a]) (rest := [.int x_11]) ⟨hx, hb, hml, hown, hts⟩ (c_Rows_in_x l D cs a hbk.1) ⟨callB_of 1 hts (gd_C qq_2_230) rfl rfl rfl (hT _ qq_1_16) (hT _ qq_3_20) (by decide +kernel) (rm_R rfl rfl), (hT _ qq_2_229)⟩ (pq_S hPc hK hN) rfl rfl hl.1 rfl (lv_room (Nat.le_of_ble_eq_true rfl)) dX6_holeOf_18 ⟨Nat.le_of_ble_eq_true rfl, Nat.le_of_ble_eq_true rfl⟩) ?_
  refine lv_topi (fun x_14 e_15 => ?_)
  have r_16 : Rg 0 255 x_14 := Rg.of e_15 (rg_in hbk.1)
  refine lv_iload_n hx hb dX6_holeOf_21 rfl (lv_at hl 1 rfl) ?_
  have hPc := va_P.sub (ws' := []) hP [] rfl
  refine cl_V (W.runS (As := [.int b]) (rest := [.int x_14, .int x_11]) ⟨hx, hb, hml, hown, hts⟩ (c_Rows_below_x l D cs b (Rg.wk (lo2 := 0) (hi2 := 8) r_b (by decide))) ⟨callB_of 1 hts (gd_C qq_3_23) rfl rfl rfl (hT _ qq_1_16) (hT _ qq_3_21) (by decide +kernel) (rm_R rfl rfl), (hT _ qq_3_22)⟩ (pq_S hPc hK hN) rfl rfl hl.1 rfl (lv_room (Nat.le_of_ble_eq_true rfl)) dX6_holeOf_22 ⟨Nat.le_of_ble_eq_true rfl, Nat.le_of_ble_eq_true rfl⟩) ?_
  refine lv_topi (fun x_17 e_18 => ?_)
  have r_19 : Rg 0 255 x_17 := Rg.of e_18 (bel_rg (Rg.wk (lo2 := 0) (hi2 := 8) r_b (by decide)))
  refine lv_iand hx hb dX6_holeOf_25 ?_
  refine lv_topi (fun x_20 e_21 => ?_)
  have r_22 : Rg 0 255 x_20 := Rg.and e_21 r_19 (by decide)
  have hPc := va_P.sub (ws' := []) hP [] rfl
  refine cl_V (W.runS (As := [.int x_20]) (rest := [.int x_11]) ⟨hx, hb, hml, hown, hts⟩ (c_bitCount_x l D cs x_20 r_22) ⟨callB_of 1 hts (gd_C qq_3_26) rfl rfl rfl (hT _ qq_1_17) (hT _ qq_3_24) (by decide +kernel) (rm_R rfl rfl), (hT _ qq_3_25)⟩ (pq_S hPc hK hN) rfl rfl hl.1 rfl (lv_room (Nat.le_of_ble_eq_true rfl)) dX6_holeOf_26 ⟨Nat.le_of_ble_eq_true rfl, Nat.le_of_ble_eq_true rfl⟩) ?_
  refine lv_topi (fun x_23 e_24 => ?_)
  have r_25 : Rg 0 8 x_23 := Rg.of e_24 (pc_rg _)
  have hPc := va_P.sub (ws' := []) hP [] rfl
  refine cl_P (W.runS (As := [.int x_11, .int x_23]) (rest := []) ⟨hx, hb, hml, hown, hts⟩ (c_Rows_placeOf_x l D cs x_11 x_23 r_13 r_25 (by have h1 := msk e_21 e_18 r_16 (by decide) (Rg.wk (lo2 := 0) (hi2 := 8) r_b (by decide)); have h4 : cN a < 65536 := cN_lt hbk.1 (by decide); have h2 : cN x_20 = cN x_14 % 2 ^ cN b := cN_of h1 (by have := Nat.mod_le (cN x_14) (2 ^ cN b); have := cN_31 x_14 r_16 (by decide); omega); rw [cN_of e_24 (by have := pc_le (cN x_20); omega), h2, c_in e_15 hbk.1, c_held e_12, hbk.2]; exact pc_below _ (by omega) _ (cN_lt r_b (by decide)) hbi)) ⟨callB_of 2 hts (gd_C qq_3_170) rfl rfl rfl (hT _ qq_1_16) (hT _ qq_3_168) (by decide +kernel) (rm_R rfl rfl), (hT _ qq_3_169)⟩ (pq_S hPc hK hN) rfl rfl hl.1 rfl (lv_room (Nat.le_of_ble_eq_true rfl)) dX6_holeOf_29 ⟨Nat.le_of_ble_eq_true rfl, Nat.le_of_ble_eq_true rfl⟩) (fun v9 hz_27 => ?_)
  obtain ⟨x_26, rfl, r_28⟩ := hz_27
  exact W.iret (v := x_26) hx hb hr (fun t9 ht9 hW9 => ⟨⟨_, rfl, _, rfl, ⟨r_28.1, by have h9 := r_28.2; rw [c_held e_12] at h9; exact h9⟩⟩, ht9.trans hHe⟩) (fun _ h9 => by rw [hlc] at h9; exact absurd h9 List.not_mem_nil) dX6_holeOf_32
set_option maxHeartbeats 4000000 in
set_option maxRecDepth 100000 in
theorem c_Rows_wrong_x (l : Launch) (D : va_G) (cs : Nat → ClassId) (a : Int32) (r_a : Rg 0 65535 a) : Met l yX6_wrong (Cond.code yX6_wrong cX6_wrong 1 (some .int) :: TB) (RM 3 0 0) (va_Pc [.int a] (PRR D cs [])) (QP (fun v => ∃ x : Int32, v = .int x ∧ Rg 0 255 x ∧ ∀ k, k < 8 → bt (cN x) k = 1 → bt (cN a / 256) k = 1)) 0 0 (fun _ => False) := by
  refine MER (y := yX6_wrong) (cc := cX6_wrong) (maxL := 1) (ret := (some .int)) (d := 3) (D := D) (cs := cs) (ws := []) (av := [.int a]) (Qc := QP (fun v => ∃ x : Int32, v = .int x ∧ Rg 0 255 x ∧ ∀ k, k < 8 → bt (cN x) k = 1 → bt (cN a / 256) k = 1)) (by decide) (Nat.le_of_ble_eq_true rfl) ?_
  intro p e s m below meth c ls H hHe hx hb hr hml hown hts hlocks hP hK hN hl
  obtain ⟨locs, hlc⟩ : ∃ z : List Loc, z = [] := ⟨_, rfl⟩
  rw [← hlc]
  have hown : s.vm.findClass "WrongHole$Rows" = some m.cls := hown
  have hT : ∀ w ∈ TB, w.before ([.int a] : List Value).toArray s = true := fun w h => hts w (List.mem_cons_of_mem _ h)
  have hl : lv_has ls 1 [(0, .int a)] := hl
  have hP : va_P D vwCl [] H := hP
  refine lv_iload_n hx hb dX6_wrong_0 rfl (lv_at hl 0 rfl) ?_
  have hPc := va_P.sub (ws' := []) hP [] rfl
  refine cl_V (W.runS (As := [.int a]) (rest := []) ⟨hx, hb, hml, hown, hts⟩ (c_Rows_in_x l D cs a r_a) ⟨callB_of 1 hts (gd_C qq_2_230) rfl rfl rfl (hT _ qq_1_16) (hT _ qq_3_20) (by decide +kernel) (rm_R rfl rfl), (hT _ qq_2_229)⟩ (pq_S hPc hK hN) rfl rfl hl.1 rfl (lv_room (Nat.le_of_ble_eq_true rfl)) dX6_wrong_1 ⟨Nat.le_of_ble_eq_true rfl, Nat.le_of_ble_eq_true rfl⟩) ?_
  refine lv_topi (fun x_1 e_2 => ?_)
  have r_3 : Rg 0 255 x_1 := Rg.of e_2 (rg_in r_a)
  refine lv_iload_n hx hb dX6_wrong_4 rfl (lv_at hl 0 rfl) ?_
  have hPc := va_P.sub (ws' := []) hP [] rfl
  refine cl_P (W.runS (As := [.int a]) (rest := [.int x_1]) ⟨hx, hb, hml, hown, hts⟩ (c_Rows_right l D cs a) ⟨callB_of 1 hts (gd_C qq_3_205) rfl rfl rfl (hT _ qq_1_16) (hT _ qq_3_203) (by decide +kernel) (rm_R rfl rfl), (hT _ qq_3_204)⟩ (pq_S hPc hK hN) rfl rfl hl.1 rfl (lv_room (Nat.le_of_ble_eq_true rfl)) dX6_wrong_5 ⟨Nat.le_of_ble_eq_true rfl, Nat.le_of_ble_eq_true rfl⟩) (fun v9 hz_5 => ?_)
  obtain ⟨x_4, rfl⟩ := hz_5
  refine lv_iconst (v := (-1)) hx hb dX6_wrong_8 (by decide) ?_
  refine lv_ixor hx hb dX6_wrong_9 ?_
  refine lv_topi (fun x_7 e_8 => ?_)
  refine lv_iand hx hb dX6_wrong_10 ?_
  refine lv_topi (fun x_9 e_10 => ?_)
  have r_11 : Rg 0 255 x_9 := Rg.andl e_10 r_3 (by decide)
  exact W.iret (v := x_9) hx hb hr (fun t9 ht9 hW9 => ⟨⟨_, rfl, _, rfl, ⟨r_11, fun k _ h9 => by have h8 := bt_and e_10 r_3 (by decide) h9; rw [c_in e_2 r_a] at h8; exact h8⟩⟩, ht9.trans hHe⟩) (fun _ h9 => by rw [hlc] at h9; exact absurd h9 List.not_mem_nil) dX6_wrong_11
set_option maxHeartbeats 4000000 in
set_option maxRecDepth 100000 in
theorem c_Rows_behind_x (l : Launch) (D : va_G) (cs : Nat → ClassId) (a : Int32) (b : Int32) (r_b : Rg 0 127 b) (hbk : BK a) (hok : OKC a b) : Met l yX6_behind (Cond.code yX6_behind cX6_behind 2 (some .int) :: TB) (RM 1 0 0) (va_Pc [.int a, .int b] (PRR D cs [])) (QP (fun v => ∃ x : Int32, v = .int x ∧ BK x)) 0 0 (fun _ => False) := by
  refine MER (y := yX6_behind) (cc := cX6_behind) (maxL := 2) (ret := (some .int)) (d := 1) (D := D) (cs := cs) (ws := []) (av := [.int a, .int b]) (Qc := QP (fun v => ∃ x : Int32, v = .int x ∧ BK x)) (by decide) (Nat.le_of_ble_eq_true rfl) ?_
  intro p e s m below meth c ls H hHe hx hb hr hml hown hts hlocks hP hK hN hl
  obtain ⟨locs, hlc⟩ : ∃ z : List Loc, z = [] := ⟨_, rfl⟩
  rw [← hlc]
  have hown : s.vm.findClass "WrongHole$Rows" = some m.cls := hown
  have hT : ∀ w ∈ TB, w.before ([.int a, .int b] : List Value).toArray s = true := fun w h => hts w (List.mem_cons_of_mem _ h)
  have hl : lv_has ls 2 [(0, .int a), (1, .int b)] := hl
  have hP : va_P D vwCl [] H := hP
  refine lv_iload_n hx hb dX6_behind_0 rfl (lv_at hl 0 rfl) ?_
  refine lv_sipush (v := 256) hx hb dX6_behind_1 (by decide) ?_
  refine lv_iload_n hx hb dX6_behind_4 rfl (lv_at hl 1 rfl) ?_
  have hPc := va_P.sub (ws' := []) hP [] rfl
  refine cl_V (W.runS (As := [.int b]) (rest := [.int 256, .int a]) ⟨hx, hb, hml, hown, hts⟩ (c_Rows_buttonOf_x l D cs b r_b) ⟨callB_of 1 hts (gd_C qq_3_39) rfl rfl rfl (hT _ qq_1_16) (hT _ qq_3_37) (by decide +kernel) (rm_R rfl rfl), (hT _ qq_3_38)⟩ (pq_S hPc hK hN) rfl rfl hl.1 rfl (lv_room (Nat.le_of_ble_eq_true rfl)) dX6_behind_5 ⟨Nat.le_of_ble_eq_true rfl, Nat.le_of_ble_eq_true rfl⟩) ?_
  refine lv_topi (fun x_1 e_2 => ?_)
  have r_3 : Rg 0 7 x_1 := Rg.of e_2 ((nI_r (lo := 0) (hi := 7) (by omega) (by omega)))
  refine lv_ishl hx hb dX6_behind_8 ?_
  refine lv_topi (fun x_4 e_5 => ?_)
  have r_6 : Rg 0 32768 x_4 := Rg.shl (ha := 256) (k := 7) e_5 (Rg.wk (Rg.c (c := 256) (k := 256) rfl) (by decide)) (Rg.wk r_3 (by decide)) (by decide) (by decide)
  refine lv_ixor hx hb dX6_behind_9 ?_
  refine lv_topi (fun x_7 e_8 => ?_)
  refine lv_iconst (v := 1) hx hb dX6_behind_10 (by decide) ?_
  refine lv_iload_n hx hb dX6_behind_11 rfl (lv_at hl 1 rfl) ?_
  refine lv_bipush (v := 7) hx hb dX6_behind_12 (by decide) ?_
  refine lv_iand hx hb dX6_behind_14 ?_
  refine lv_topi (fun x_9 e_10 => ?_)
  have r_11 : Rg 0 7 x_9 := Rg.and e_10 (Rg.c (c := 7) (k := 7) rfl) (by decide)
  refine lv_ishl hx hb dX6_behind_15 ?_
  refine lv_topi (fun x_12 e_13 => ?_)
  have r_14 : Rg 0 128 x_12 := Rg.shl (ha := 1) (k := 7) e_13 (Rg.wk (Rg.c (c := 1) (k := 1) rfl) (by decide)) (Rg.wk r_11 (by decide)) (by decide) (by decide)
  refine lv_ixor hx hb dX6_behind_16 ?_
  refine lv_topi (fun x_15 e_16 => ?_)
  exact W.iret (v := x_15) hx hb hr (fun t9 ht9 hW9 => ⟨⟨_, rfl, _, rfl, kf_behind e_2 e_5 e_8 e_10 e_13 e_16 hbk hok⟩, ht9.trans hHe⟩) (fun _ h9 => by rw [hlc] at h9; exact absurd h9 List.not_mem_nil) dX6_behind_17
