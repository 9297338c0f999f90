theorem dX12_placeIn_0 : decode cX12_placeIn 0 = .ok (.iload_n 0, 1) := by decide +kernel
theorem dX12_placeIn_1 : decode cX12_placeIn 1 = .ok (.invokestatic 335, 3) := by decide +kernel
theorem qq_7_78 : Cond.code yX12_heldOf cX12_heldOf 1 (some .int) ∈ TB := mk_tb (ti_7 (List.mem_of_getElem? (i := 78) rfl)) rfl
theorem qq_7_76 : Cond.methodLink "WrongHoleModel" 335 yX12_heldOf ∈ TB := mk_tb (ti_7 (List.mem_of_getElem? (i := 76) rfl)) rfl
theorem qq_7_77 : Cond.static yX12_heldOf ∈ TB := mk_tb (ti_7 (List.mem_of_getElem? (i := 77) rfl)) rfl
theorem dX12_placeIn_4 : decode cX12_placeIn 4 = .ok (.iload_n 0, 1) := by decide +kernel
theorem dX12_placeIn_5 : decode cX12_placeIn 5 = .ok (.invokestatic 338, 3) := by decide +kernel
theorem qq_7_58 : Cond.code yX12_inOf cX12_inOf 1 (some .int) ∈ TB := mk_tb (ti_7 (List.mem_of_getElem? (i := 58) rfl)) rfl
theorem qq_7_56 : Cond.methodLink "WrongHoleModel" 338 yX12_inOf ∈ TB := mk_tb (ti_7 (List.mem_of_getElem? (i := 56) rfl)) rfl
theorem qq_7_57 : Cond.static yX12_inOf ∈ TB := mk_tb (ti_7 (List.mem_of_getElem? (i := 57) rfl)) rfl
theorem dX12_placeIn_8 : decode cX12_placeIn 8 = .ok (.iconst 1, 1) := by decide +kernel
theorem dX12_placeIn_9 : decode cX12_placeIn 9 = .ok (.iload_n 1, 1) := by decide +kernel
theorem dX12_placeIn_10 : decode cX12_placeIn 10 = .ok (.ishl, 1) := by decide +kernel
theorem dX12_placeIn_11 : decode cX12_placeIn 11 = .ok (.iconst 1, 1) := by decide +kernel
theorem dX12_placeIn_12 : decode cX12_placeIn 12 = .ok (.isub, 1) := by decide +kernel
theorem dX12_placeIn_13 : decode cX12_placeIn 13 = .ok (.iand, 1) := by decide +kernel
theorem dX12_placeIn_14 : decode cX12_placeIn 14 = .ok (.invokestatic 341, 3) := by decide +kernel
theorem qq_7_61 : Cond.code yX12_bits cX12_bits 3 (some .int) ∈ TB := mk_tb (ti_7 (List.mem_of_getElem? (i := 61) rfl)) rfl
theorem qq_7_59 : Cond.methodLink "WrongHoleModel" 341 yX12_bits ∈ TB := mk_tb (ti_7 (List.mem_of_getElem? (i := 59) rfl)) rfl
theorem qq_7_60 : Cond.static yX12_bits ∈ TB := mk_tb (ti_7 (List.mem_of_getElem? (i := 60) rfl)) rfl
theorem dX12_placeIn_17 : decode cX12_placeIn 17 = .ok (.invokestatic 344, 3) := by decide +kernel
theorem qq_7_81 : Cond.code yX12_nth cX12_nth 4 (some .int) ∈ TB := mk_tb (ti_7 (List.mem_of_getElem? (i := 81) rfl)) rfl
theorem qq_7_79 : Cond.methodLink "WrongHoleModel" 344 yX12_nth ∈ TB := mk_tb (ti_7 (List.mem_of_getElem? (i := 79) rfl)) rfl
theorem qq_7_80 : Cond.static yX12_nth ∈ TB := mk_tb (ti_7 (List.mem_of_getElem? (i := 80) rfl)) rfl
theorem dX12_placeIn_20 : decode cX12_placeIn 20 = .ok (.ireturn, 1) := by decide +kernel
set_option maxHeartbeats 4000000 in
set_option maxRecDepth 100000 in
theorem c_M_placeIn (l : Launch) (D : va_G) (cs : Nat → ClassId) (a : Int32) (b : Int32) (r_b : Rg 0 7 b) (hbk : BK a) (hbi : bt (cN a % 256) (cN b) = 1) : Met l yX12_placeIn (Cond.code yX12_placeIn cX12_placeIn 2 (some .int) :: TB) (RM 2 0 0) (va_Pc [.int a, .int b] (PRR D cs [])) (k2_QcV (.int (nI (plF (cN a) (cN b))))) 0 0 (fun _ => False) := by
  refine MER (y := yX12_placeIn) (cc := cX12_placeIn) (maxL := 2) (ret := (some .int)) (d := 2) (D := D) (cs := cs) (ws := []) (av := [.int a, .int b]) (Qc := k2_QcV (.int (nI (plF (cN a) (cN b))))) (by decide) (Nat.le_of_ble_eq_true rfl) ?_
  intro p e s m below meth c ls H hHe hx hb hr hml hown hts hlocks hP hK hN hl
  obtain ⟨locs, hlc⟩ : ∃ z : List Loc, z = [] := ⟨_, rfl⟩
  rw [← hlc]
  have hown : s.vm.findClass "WrongHoleModel" = some m.cls := hown
  have hT : ∀ w ∈ TB, w.before ([.int a, .int b] : List Value).toArray s = true := fun w h => hts w (List.mem_cons_of_mem _ h)
  have hl : lv_has ls 2 [(0, .int a), (1, .int b)] := hl
  have hP : va_P D vwCl [] H := hP
  refine lv_iload_n hx hb dX12_placeIn_0 rfl (lv_at hl 0 rfl) ?_
  have hPc := va_P.sub (ws' := []) hP [] rfl
  refine cl_V (W.runS (As := [.int a]) (rest := []) ⟨hx, hb, hml, hown, hts⟩ (c_M_heldOf l D cs a hbk.1) ⟨callB_of 1 hts (gd_C qq_7_78) rfl rfl rfl (hT _ qq_1_9) (hT _ qq_7_76) (by decide +kernel) (rm_R rfl rfl), (hT _ qq_7_77)⟩ (pq_S hPc hK hN) rfl rfl hl.1 rfl (lv_room (Nat.le_of_ble_eq_true rfl)) dX12_placeIn_1 ⟨Nat.le_of_ble_eq_true rfl, Nat.le_of_ble_eq_true rfl⟩) ?_
  refine lv_topi (fun x_1 e_2 => ?_)
  have r_3 : Rg 0 255 x_1 := Rg.of e_2 (rg_in hbk.1)
  refine lv_iload_n hx hb dX12_placeIn_4 rfl (lv_at hl 0 rfl) ?_
  have hPc := va_P.sub (ws' := []) hP [] rfl
  refine cl_V (W.runS (As := [.int a]) (rest := [.int x_1]) ⟨hx, hb, hml, hown, hts⟩ (c_M_inOf l D cs a hbk.1) ⟨callB_of 1 hts (gd_C qq_7_58) rfl rfl rfl (hT _ qq_1_9) (hT _ qq_7_56) (by decide +kernel) (rm_R rfl rfl), (hT _ qq_7_57)⟩ (pq_S hPc hK hN) rfl rfl hl.1 rfl (lv_room (Nat.le_of_ble_eq_true rfl)) dX12_placeIn_5 ⟨Nat.le_of_ble_eq_true rfl, Nat.le_of_ble_eq_true rfl⟩) ?_
  refine lv_topi (fun x_4 e_5 => ?_)
  have r_6 : Rg 0 255 x_4 := Rg.of e_5 (rg_held _)
  refine lv_iconst (v := 1) hx hb dX12_placeIn_8 (by decide) ?_
  refine lv_iload_n hx hb dX12_placeIn_9 rfl (lv_at hl 1 rfl) ?_
  refine lv_ishl hx hb dX12_placeIn_10 ?_
  refine lv_topi (fun x_7 e_8 => ?_)
  have r_9 : Rg 0 128 x_7 := Rg.shl (ha := 1) (k := 7) e_8 (Rg.wk (Rg.c (c := 1) (k := 1) rfl) (by decide)) (Rg.wk r_b (by decide)) (by decide) (by decide)
  refine lv_iconst (v := 1) hx hb dX12_placeIn_11 (by decide) ?_
  refine lv_isub hx hb dX12_placeIn_12 ?_
  refine lv_topi (fun x_10 e_11 => ?_)
  have r_12 : Rg (-1) 127 x_10 := Rg.sub e_11 r_9 (Rg.c (c := 1) (k := 1) rfl) (by decide)
  refine lv_iand hx hb dX12_placeIn_13 ?_
  refine lv_topi (fun x_13 e_14 => ?_)
  have r_15 : Rg 0 255 x_13 := Rg.andl e_14 r_6 (by decide)
  have hPc := va_P.sub (ws' := []) hP [] rfl
  refine cl_V (W.runS (As := [.int x_13]) (rest := [.int x_1]) ⟨hx, hb, hml, hown, hts⟩ (c_M_bits l D cs x_13 r_15) ⟨callB_of 1 hts (gd_C qq_7_61) rfl rfl rfl (hT _ qq_1_9) (hT _ qq_7_59) (by decide +kernel) (rm_R rfl rfl), (hT _ qq_7_60)⟩ (pq_S hPc hK hN) rfl rfl hl.1 rfl (lv_room (Nat.le_of_ble_eq_true rfl)) dX12_placeIn_14 ⟨Nat.le_of_ble_eq_true rfl, Nat.le_of_ble_eq_true rfl⟩) ?_
  refine lv_topi (fun x_16 e_17 => ?_)
  have r_18 : Rg 0 8 x_16 := Rg.of e_17 (pc_rg _)
  have hPc := va_P.sub (ws' := []) hP [] rfl
  refine cl_V (W.runS (As := [.int x_1, .int x_16]) (rest := []) ⟨hx, hb, hml, hown, hts⟩ (c_M_nth l D cs x_1 x_16 r_3 r_18 (by have h9 := pl_hlt (n := 0) hbk r_b hbi e_5 e_8 e_11 e_14 e_17; rw [cN_of h9.1 (by have := pc_le (cN a % 256 % 2 ^ cN b); omega), c_in e_2 hbk.1]; exact h9.2)) ⟨callB_of 2 hts (gd_C qq_7_81) rfl rfl rfl (hT _ qq_1_9) (hT _ qq_7_79) (by decide +kernel) (rm_R rfl rfl), (hT _ qq_7_80)⟩ (pq_S hPc hK hN) rfl rfl hl.1 rfl (lv_room (Nat.le_of_ble_eq_true rfl)) dX12_placeIn_17 ⟨Nat.le_of_ble_eq_true rfl, Nat.le_of_ble_eq_true rfl⟩) ?_
  refine lv_topi (fun x_19 e_20 => ?_)
  exact W.iret (v := x_19) hx hb hr (fun t9 ht9 hW9 => ⟨by rw [show (.int (nI (plF (cN a) (cN b))) : Value) = .int x_19 from (congrArg Value.int (e_20.trans (pl_cl (pl_hlt (n := 0) hbk r_b hbi e_5 e_8 e_11 e_14 e_17).1 e_2 hbk.1)).symm)], ht9.trans hHe⟩) (fun _ h9 => by rw [hlc] at h9; exact absurd h9 List.not_mem_nil) dX12_placeIn_20
theorem dX12_joined_0 : decode cX12_joined 0 = .ok (.iload_n 0, 1) := by decide +kernel
theorem dX12_joined_1 : decode cX12_joined 1 = .ok (.iconst 1, 1) := by decide +kernel
theorem dX12_joined_2 : decode cX12_joined 2 = .ok (.iload_n 1, 1) := by decide +kernel
theorem dX12_joined_3 : decode cX12_joined 3 = .ok (.ishl, 1) := by decide +kernel
theorem dX12_joined_4 : decode cX12_joined 4 = .ok (.ior, 1) := by decide +kernel
theorem dX12_joined_5 : decode cX12_joined 5 = .ok (.sipush 256, 3) := by decide +kernel
theorem dX12_joined_8 : decode cX12_joined 8 = .ok (.iload_n 2, 1) := by decide +kernel
theorem dX12_joined_9 : decode cX12_joined 9 = .ok (.ishl, 1) := by decide +kernel
theorem dX12_joined_10 : decode cX12_joined 10 = .ok (.ior, 1) := by decide +kernel
theorem dX12_joined_11 : decode cX12_joined 11 = .ok (.ireturn, 1) := by decide +kernel
set_option maxHeartbeats 4000000 in
set_option maxRecDepth 100000 in
theorem c_M_joined (l : Launch) (D : va_G) (cs : Nat → ClassId) (a : Int32) (b : Int32) (h : Int32) (r_b : Rg 0 7 b) (r_h : Rg 0 7 h) (hbk : BK a) (hb0 : bt (cN a % 256) (cN b) = 0) (hh0 : bt (cN a / 256) (cN h) = 0) : Met l yX12_joined (Cond.code yX12_joined cX12_joined 3 (some .int) :: TB) (RM 0 0 0) (va_Pc [.int a, .int b, .int h] (PRR D cs [])) (QP (fun v => ∃ x : Int32, v = .int x ∧ x = nI (cN a + 2 ^ cN b + 256 * 2 ^ cN h) ∧ BK x)) 0 0 (fun _ => False) := by
  refine MER (y := yX12_joined) (cc := cX12_joined) (maxL := 3) (ret := (some .int)) (d := 0) (D := D) (cs := cs) (ws := []) (av := [.int a, .int b, .int h]) (Qc := QP (fun v => ∃ x : Int32, v = .int x ∧ x = nI (cN a + 2 ^ cN b + 256 * 2 ^ cN h) ∧ BK x)) (by decide) (Nat.le_of_ble_eq_true rfl) ?_
  intro p e s m below meth c ls H hHe hx hb hr hml hown hts hlocks hP hK hN hl
  obtain ⟨locs, hlc⟩ : ∃ z : List Loc, z = [] := ⟨_, rfl⟩
  rw [← hlc]
  have hown : s.vm.findClass "WrongHoleModel" = some m.cls := hown
  have hT : ∀ w ∈ TB, w.before ([.int a, .int b, .int h] : List Value).toArray s = true := fun w h => hts w (List.mem_cons_of_mem _ h)
  have hl : lv_has ls 3 [(0, .int a), (1, .int b), (2, .int h)] := hl
  have hP : va_P D vwCl [] H := hP
  refine lv_iload_n hx hb dX12_joined_0 rfl (lv_at hl 0 rfl) ?_
  refine lv_iconst (v := 1) hx hb dX12_joined_1 (by decide) ?_
  refine lv_iload_n hx hb dX12_joined_2 rfl (lv_at hl 1 rfl) ?_
  refine lv_ishl hx hb dX12_joined_3 ?_
  refine lv_topi (fun x_1 e_2 => ?_)
  have r_3 : Rg 0 128 x_1 := Rg.shl (ha := 1) (k := 7) e_2 (Rg.wk (Rg.c (c := 1) (k := 1) rfl) (by decide)) (Rg.wk r_b (by decide)) (by decide) (by decide)
  refine lv_ior hx hb dX12_joined_4 ?_
  refine lv_topi (fun x_4 e_5 => ?_)
  have r_6 : Rg 0 65535 x_4 := Rg.or (k := 16) e_5 hbk.1 r_3 (by decide) (by decide)
  refine lv_sipush (v := 256) hx hb dX12_joined_5 (by decide) ?_
  refine lv_iload_n hx hb dX12_joined_8 rfl (lv_at hl 2 rfl) ?_
  refine lv_ishl hx hb dX12_joined_9 ?_
  refine lv_topi (fun x_7 e_8 => ?_)
  have r_9 : Rg 0 32768 x_7 := Rg.shl (ha := 256) (k := 7) e_8 (Rg.wk (Rg.c (c := 256) (k := 256) rfl) (by decide)) (Rg.wk r_h (by decide)) (by decide) (by decide)
  refine lv_ior hx hb dX12_joined_10 ?_
  refine lv_topi (fun x_10 e_11 => ?_)
  have r_12 : Rg 0 65535 x_10 := Rg.or (k := 16) e_11 r_6 r_9 (by decide) (by decide)
  exact W.iret (v := x_10) hx hb hr (fun t9 ht9 hW9 => ⟨⟨_, rfl, _, rfl, (by have h9 := jn_x hbk r_b r_h hb0 hh0 e_2 e_5 e_8 e_11; exact ⟨h9.1, h9.2.1⟩)⟩, ht9.trans hHe⟩) (fun _ h9 => by rw [hlc] at h9; exact absurd h9 List.not_mem_nil) dX12_joined_11
theorem dX12_parted_0 : decode cX12_parted 0 = .ok (.iload_n 0, 1) := by decide +kernel
theorem dX12_parted_1 : decode cX12_parted 1 = .ok (.iconst 1, 1) := by decide +kernel
theorem dX12_parted_2 : decode cX12_parted 2 = .ok (.iload_n 1, 1) := by decide +kernel
theorem dX12_parted_3 : decode cX12_parted 3 = .ok (.ishl, 1) := by decide +kernel
theorem dX12_parted_4 : decode cX12_parted 4 = .ok (.iconst (-1), 1) := by decide +kernel
theorem dX12_parted_5 : decode cX12_parted 5 = .ok (.ixor, 1) := by decide +kernel
theorem dX12_parted_6 : decode cX12_parted 6 = .ok (.iand, 1) := by decide +kernel
theorem dX12_parted_7 : decode cX12_parted 7 = .ok (.sipush 256, 3) := by decide +kernel
theorem dX12_parted_10 : decode cX12_parted 10 = .ok (.iload_n 0, 1) := by decide +kernel
theorem dX12_parted_11 : decode cX12_parted 11 = .ok (.iload_n 1, 1) := by decide +kernel
theorem dX12_parted_12 : decode cX12_parted 12 = .ok (.invokestatic 347, 3) := by decide +kernel
theorem qq_7_75 : Cond.code yX12_placeIn cX12_placeIn 2 (some .int) ∈ TB := mk_tb (ti_7 (List.mem_of_getElem? (i := 75) rfl)) rfl
theorem qq_7_73 : Cond.methodLink "WrongHoleModel" 347 yX12_placeIn ∈ TB := mk_tb (ti_7 (List.mem_of_getElem? (i := 73) rfl)) rfl
theorem qq_7_74 : Cond.static yX12_placeIn ∈ TB := mk_tb (ti_7 (List.mem_of_getElem? (i := 74) rfl)) rfl
theorem dX12_parted_15 : decode cX12_parted 15 = .ok (.ishl, 1) := by decide +kernel
theorem dX12_parted_16 : decode cX12_parted 16 = .ok (.iconst (-1), 1) := by decide +kernel
theorem dX12_parted_17 : decode cX12_parted 17 = .ok (.ixor, 1) := by decide +kernel
theorem dX12_parted_18 : decode cX12_parted 18 = .ok (.iand, 1) := by decide +kernel
theorem dX12_parted_19 : decode cX12_parted 19 = .ok (.ireturn, 1) := by decide +kernel
set_option maxHeartbeats 4000000 in
set_option maxRecDepth 100000 in
theorem c_M_parted (l : Launch) (D : va_G) (cs : Nat → ClassId) (a : Int32) (b : Int32) (r_b : Rg 0 7 b) (hbk : BK a) (hbi : bt (cN a % 256) (cN b) = 1) : Met l yX12_parted (Cond.code yX12_parted cX12_parted 2 (some .int) :: TB) (RM 3 0 0) (va_Pc [.int a, .int b] (PRR D cs [])) (QP (fun v => ∃ x : Int32, v = .int x ∧ x = nI (cN a - 2 ^ cN b - 256 * 2 ^ plF (cN a) (cN b)) ∧ BK x)) 0 0 (fun _ => False) := by
  refine MER (y := yX12_parted) (cc := cX12_parted) (maxL := 2) (ret := (some .int)) (d := 3) (D := D) (cs := cs) (ws := []) (av := [.int a, .int b]) (Qc := QP (fun v => ∃ x : Int32, v = .int x ∧ x = nI (cN a - 2 ^ cN b - 256 * 2 ^ plF (cN a) (cN b)) ∧ BK x)) (by decide) (Nat.le_of_ble_eq_true rfl) ?_
  intro p e s m below meth c ls H hHe hx hb hr hml hown hts hlocks hP hK hN hl
  obtain ⟨locs, hlc⟩ : ∃ z : List Loc, z = [] := ⟨_, rfl⟩
  rw [← hlc]
  have hown : s.vm.findClass "WrongHoleModel" = some m.cls := hown
  have hT : ∀ w ∈ TB, w.before ([.int a, .int b] : List Value).toArray s = true := fun w h => hts w (List.mem_cons_of_mem _ h)
  have hl : lv_has ls 2 [(0, .int a), (1, .int b)] := hl
  have hP : va_P D vwCl [] H := hP
  refine lv_iload_n hx hb dX12_parted_0 rfl (lv_at hl 0 rfl) ?_
  refine lv_iconst (v := 1) hx hb dX12_parted_1 (by decide) ?_
  refine lv_iload_n hx hb dX12_parted_2 rfl (lv_at hl 1 rfl) ?_
  refine lv_ishl hx hb dX12_parted_3 ?_
  refine lv_topi (fun x_1 e_2 => ?_)
  have r_3 : Rg 0 128 x_1 := Rg.shl (ha := 1) (k := 7) e_2 (Rg.wk (Rg.c (c := 1) (k := 1) rfl) (by decide)) (Rg.wk r_b (by decide)) (by decide) (by decide)
  refine lv_iconst (v := (-1)) hx hb dX12_parted_4 (by decide) ?_
  refine lv_ixor hx hb dX12_parted_5 ?_
  refine lv_topi (fun x_4 e_5 => ?_)
  refine lv_iand hx hb dX12_parted_6 ?_
  refine lv_topi (fun x_6 e_7 => ?_)
  have r_8 : Rg 0 65535 x_6 := Rg.andl e_7 hbk.1 (by decide)
  refine lv_sipush (v := 256) hx hb dX12_parted_7 (by decide) ?_
  refine lv_iload_n hx hb dX12_parted_10 rfl (lv_at hl 0 rfl) ?_
  refine lv_iload_n hx hb dX12_parted_11 rfl (lv_at hl 1 rfl) ?_
  have hPc := va_P.sub (ws' := []) hP [] rfl
  refine cl_V (W.runS (As := [.int a, .int b]) (rest := [.int 256, .int x_6]) ⟨hx, hb, hml, hown, hts⟩ (c_M_placeIn l D cs a b r_b hbk hbi) ⟨callB_of 2 hts (gd_C qq_7_75) rfl rfl rfl (hT _ qq_1_9) (hT _ qq_7_73) (by decide +kernel) (rm_R rfl rfl), (hT _ qq_7_74)⟩ (pq_S hPc hK hN) rfl rfl hl.1 rfl (lv_room (Nat.le_of_ble_eq_true rfl)) dX12_parted_12 ⟨Nat.le_of_ble_eq_true rfl, Nat.le_of_ble_eq_true rfl⟩) ?_
  refine lv_topi (fun x_9 e_10 => ?_)
  have r_11 : Rg 0 7 x_9 := Rg.of e_10 (pl_rg hbk r_b hbi)
  refine lv_ishl hx hb dX12_parted_15 ?_
  refine lv_topi (fun x_12 e_13 => ?_)
  have r_14 : Rg 0 32768 x_12 := Rg.shl (ha := 256) (k := 7) e_13 (Rg.wk (Rg.c (c := 256) (k := 256) rfl) (by decide)) (Rg.wk r_11 (by decide)) (by decide) (by decide)
  refine lv_iconst (v := (-1)) hx hb dX12_parted_16 (by decide) ?_
  refine lv_ixor hx hb dX12_parted_17 ?_
  refine lv_topi (fun x_15 e_16 => ?_)
  refine lv_iand hx hb dX12_parted_18 ?_
  refine lv_topi (fun x_17 e_18 => ?_)
  have r_19 : Rg 0 65535 x_17 := Rg.andl e_18 r_8 (by decide)
  exact W.iret (v := x_17) hx hb hr (fun t9 ht9 hW9 => ⟨⟨_, rfl, _, rfl, (pt_x hbk r_b hbi e_2 e_5 e_7 e_10 e_13 e_16 e_18)⟩, ht9.trans hHe⟩) (fun _ h9 => by rw [hlc] at h9; exact absurd h9 List.not_mem_nil) dX12_parted_19
