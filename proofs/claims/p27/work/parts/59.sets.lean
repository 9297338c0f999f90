theorem dX12_in_0 : decode cX12_in 0 = .ok (.lload_n 0, 1) := by decide +kernel
theorem dX12_in_1 : decode cX12_in 1 = .ok (.lload_n 2, 1) := by decide +kernel
theorem dX12_in_2 : decode cX12_in 2 = .ok (.lcmp, 1) := by decide +kernel
theorem dX12_in_3 : decode cX12_in 3 = .ok (.ifCond .lt 14, 3) := by decide +kernel
theorem dX12_in_17 : decode cX12_in 17 = .ok (.iconst 0, 1) := by decide +kernel
theorem dX12_in_18 : decode cX12_in 18 = .ok (.ireturn, 1) := by decide +kernel
theorem dX12_in_6 : decode cX12_in 6 = .ok (.lload_n 0, 1) := by decide +kernel
theorem dX12_in_7 : decode cX12_in 7 = .ok (.lload 4, 2) := by decide +kernel
theorem dX12_in_9 : decode cX12_in 9 = .ok (.lcmp, 1) := by decide +kernel
theorem dX12_in_10 : decode cX12_in 10 = .ok (.ifCond .gt 7, 3) := by decide +kernel
theorem dX12_in_13 : decode cX12_in 13 = .ok (.iconst 1, 1) := by decide +kernel
theorem dX12_in_14 : decode cX12_in 14 = .ok (.goto 4, 3) := by decide +kernel
set_option maxHeartbeats 4000000 in
set_option maxRecDepth 100000 in
theorem c_M_in (l : Launch) (D : va_G) (cs : Nat → ClassId) (y1 : Int64) (y2 : Int64) (y3 : Int64)  : Met l yX12_in (Cond.code yX12_in cX12_in 6 (some .boolean) :: TB) (RM 0 0 0) (va_Pc [.long y1, .long y2, .long y3] (PRR D cs [])) (QP (fun v => ∃ x : Int32, v = .int x ∧ Rg 0 1 x ∧ (¬ x = 0 → Int64.toInt y2 ≤ Int64.toInt y1 ∧ Int64.toInt y1 ≤ Int64.toInt y3))) 0 0 (fun _ => False) := by
  refine MER (y := yX12_in) (cc := cX12_in) (maxL := 6) (ret := (some .boolean)) (d := 0) (D := D) (cs := cs) (ws := []) (av := [.long y1, .long y2, .long y3]) (Qc := QP (fun v => ∃ x : Int32, v = .int x ∧ Rg 0 1 x ∧ (¬ x = 0 → Int64.toInt y2 ≤ Int64.toInt y1 ∧ Int64.toInt y1 ≤ Int64.toInt y3))) (by decide) (Nat.le_of_ble_eq_true rfl) ?_
  intro p e s m below meth c ls H hHe hx hb hr hml hown hts hlocks hP hK hN hl
  obtain ⟨locs, hlc⟩ : ∃ z : List Loc, z = [] := ⟨_, rfl⟩
  rw [← hlc]
  have hown : s.vm.findClass "WrongHoleModel" = some m.cls := hown
  have hT : ∀ w ∈ TB, w.before ([.long y1, .long y2, .long y3] : List Value).toArray s = true := fun w h => hts w (List.mem_cons_of_mem _ h)
  have hl : lv_has ls 6 [(0, .long y1), (2, .long y2), (4, .long y3)] := hl
  have hP : va_P D vwCl [] H := hP
  refine lv_lload_n hx hb dX12_in_0 rfl (lv_at hl 0 rfl) ?_
  refine lv_lload_n hx hb dX12_in_1 rfl (lv_at hl 1 rfl) ?_
  refine W.lcmp hx hb dX12_in_2 ?_
  refine lv_topi (fun x_1 e_2 => ?_)
  have r_3 : Rg (-1) 1 x_1 := Rg.of e_2 (cmp_r _ _)
  refine lv_if_lt (tgt := 17) hx hb dX12_in_3 (by decide) (fun c_4 => ?_) (fun c_4 => ?_)
  · have r_5 : Rg (-1) (-1) x_1 := Rg.lt_l c_4 r_3 (Rg.c (c := 0) (k := 0) rfl) (by decide)
    refine lv_iconst (v := 0) hx hb dX12_in_17 (by decide) ?_
    exact W.zret (v := 0) (ty := .boolean) hx hb hr rfl (fun t9 ht9 hW9 => ⟨⟨_, rfl, _, rfl, ⟨⟨by decide, by decide⟩, fun q9 => absurd rfl q9⟩⟩, ht9.trans hHe⟩) (fun _ h9 => by rw [hlc] at h9; exact absurd h9 List.not_mem_nil) dX12_in_18
  · have r_6 : Rg 0 1 x_1 := Rg.le_r (nlt_le c_4) (Rg.c (c := 0) (k := 0) rfl) r_3 (by decide)
    refine lv_lload_n hx hb dX12_in_6 rfl (lv_at hl 0 rfl) ?_
    refine lv_lload hx hb dX12_in_7 (lv_at hl 2 rfl) ?_
    refine W.lcmp hx hb dX12_in_9 ?_
    refine lv_topi (fun x_13 e_14 => ?_)
    have r_15 : Rg (-1) 1 x_13 := Rg.of e_14 (cmp_r _ _)
    refine lv_if_gt (tgt := 17) hx hb dX12_in_10 (by decide) (fun c_16 => ?_) (fun c_16 => ?_)
    · have r_17 : Rg 1 1 x_13 := Rg.lt_r c_16 (Rg.c (c := 0) (k := 0) rfl) r_15 (by decide)
      refine lv_iconst (v := 0) hx hb dX12_in_17 (by decide) ?_
      exact W.zret (v := 0) (ty := .boolean) hx hb hr rfl (fun t9 ht9 hW9 => ⟨⟨_, rfl, _, rfl, ⟨⟨by decide, by decide⟩, fun q9 => absurd rfl q9⟩⟩, ht9.trans hHe⟩) (fun _ h9 => by rw [hlc] at h9; exact absurd h9 List.not_mem_nil) dX12_in_18
    · have r_18 : Rg (-1) 0 x_13 := Rg.le_l (nlt_le c_16) r_15 (Rg.c (c := 0) (k := 0) rfl) (by decide)
      refine lv_iconst (v := 1) hx hb dX12_in_13 (by decide) ?_
      refine lv_goto (tgt := 18) hx hb dX12_in_14 (by decide) ?_
      exact W.zret (v := 1) (ty := .boolean) hx hb hr rfl (fun t9 ht9 hW9 => ⟨⟨_, rfl, _, rfl, ⟨⟨by decide, by decide⟩, fun _ => ⟨lc_ge e_2 c_4, lc_le e_14 c_16⟩⟩⟩, ht9.trans hHe⟩) (fun _ h9 => by rw [hlc] at h9; exact absurd h9 List.not_mem_nil) dX12_in_18
theorem dX12_isOf_0 : decode cX12_isOf 0 = .ok (.iload_n 0, 1) := by decide +kernel
theorem dX12_isOf_1 : decode cX12_isOf 1 = .ok (.iload_n 1, 1) := by decide +kernel
theorem dX12_isOf_2 : decode cX12_isOf 2 = .ok (.ishr, 1) := by decide +kernel
theorem dX12_isOf_3 : decode cX12_isOf 3 = .ok (.iconst 1, 1) := by decide +kernel
theorem dX12_isOf_4 : decode cX12_isOf 4 = .ok (.iand, 1) := by decide +kernel
theorem dX12_isOf_5 : decode cX12_isOf 5 = .ok (.iconst 1, 1) := by decide +kernel
theorem dX12_isOf_6 : decode cX12_isOf 6 = .ok (.if_icmp .ne 7, 3) := by decide +kernel
theorem dX12_isOf_13 : decode cX12_isOf 13 = .ok (.iconst 0, 1) := by decide +kernel
theorem dX12_isOf_14 : decode cX12_isOf 14 = .ok (.ireturn, 1) := by decide +kernel
theorem dX12_isOf_9 : decode cX12_isOf 9 = .ok (.iconst 1, 1) := by decide +kernel
theorem dX12_isOf_10 : decode cX12_isOf 10 = .ok (.goto 4, 3) := by decide +kernel
set_option maxHeartbeats 4000000 in
set_option maxRecDepth 100000 in
theorem c_M_isOf (l : Launch) (D : va_G) (cs : Nat → ClassId) (a : Int32) (b : Int32) (r_a : Rg 0 255 a) (r_b : Rg 0 7 b) : Met l yX12_isOf (Cond.code yX12_isOf cX12_isOf 2 (some .boolean) :: TB) (RM 0 0 0) (va_Pc [.int a, .int b] (PRR D cs [])) (k2_QcV (.int (nI (bt (cN a) (cN b))))) 0 0 (fun _ => False) := by
  refine MER (y := yX12_isOf) (cc := cX12_isOf) (maxL := 2) (ret := (some .boolean)) (d := 0) (D := D) (cs := cs) (ws := []) (av := [.int a, .int b]) (Qc := k2_QcV (.int (nI (bt (cN a) (cN b))))) (by decide) (Nat.le_of_ble_eq_true rfl) ?_
  intro p e s m below meth c ls H hHe hx hb hr hml hown hts hlocks hP hK hN hl
  obtain ⟨locs, hlc⟩ : ∃ z : List Loc, z = [] := ⟨_, rfl⟩
  rw [← hlc]
  have hown : s.vm.findClass "WrongHoleModel" = some m.cls := hown
  have hT : ∀ w ∈ TB, w.before ([.int a, .int b] : List Value).toArray s = true := fun w h => hts w (List.mem_cons_of_mem _ h)
  have hl : lv_has ls 2 [(0, .int a), (1, .int b)] := hl
  have hP : va_P D vwCl [] H := hP
  refine lv_iload_n hx hb dX12_isOf_0 rfl (lv_at hl 0 rfl) ?_
  refine lv_iload_n hx hb dX12_isOf_1 rfl (lv_at hl 1 rfl) ?_
  refine lv_ishr hx hb dX12_isOf_2 ?_
  refine lv_topi (fun x_1 e_2 => ?_)
  have r_3 : Rg 0 255 x_1 := Rg.shrn e_2 r_a
  refine lv_iconst (v := 1) hx hb dX12_isOf_3 (by decide) ?_
  refine lv_iand hx hb dX12_isOf_4 ?_
  refine lv_topi (fun x_4 e_5 => ?_)
  have r_6 : Rg 0 1 x_4 := Rg.and e_5 (Rg.c (c := 1) (k := 1) rfl) (by decide)
  refine lv_iconst (v := 1) hx hb dX12_isOf_5 (by decide) ?_
  refine lv_icmp_ne (tgt := 13) hx hb dX12_isOf_6 (by decide) (fun c_7 => ?_) (fun c_7 => ?_)
  · have r_8 : Rg 0 0 x_4 := Rg.ne c_7 r_6 (Rg.c (c := 1) (k := 1) rfl) (by decide)
    refine lv_iconst (v := 0) hx hb dX12_isOf_13 (by decide) ?_
    exact W.zret (v := 0) (ty := .boolean) hx hb hr rfl (fun t9 ht9 hW9 => ⟨by rw [show (.int (nI (bt (cN a) (cN b))) : Value) = .int 0 from (congrArg Value.int (isof_0 (bt_z e_5 e_2 r_a r_b (by decide)) c_7).symm)], ht9.trans hHe⟩) (fun _ h9 => by rw [hlc] at h9; exact absurd h9 List.not_mem_nil) dX12_isOf_14
  · have r_9 : Rg 1 1 x_4 := Rg.eq_l c_7 r_6 (Rg.c (c := 1) (k := 1) rfl) (by decide)
    refine lv_iconst (v := 1) hx hb dX12_isOf_9 (by decide) ?_
    refine lv_goto (tgt := 14) hx hb dX12_isOf_10 (by decide) ?_
    exact W.zret (v := 1) (ty := .boolean) hx hb hr rfl (fun t9 ht9 hW9 => ⟨by rw [show (.int (nI (bt (cN a) (cN b))) : Value) = .int 1 from (congrArg Value.int (isof_1 (bt_z e_5 e_2 r_a r_b (by decide)) c_7).symm)], ht9.trans hHe⟩) (fun _ h9 => by rw [hlc] at h9; exact absurd h9 List.not_mem_nil) dX12_isOf_14
theorem dX12_bits_0 : decode cX12_bits 0 = .ok (.iconst 0, 1) := by decide +kernel
theorem dX12_bits_1 : decode cX12_bits 1 = .ok (.istore_n 1, 1) := by decide +kernel
theorem dX12_bits_2 : decode cX12_bits 2 = .ok (.iload_n 0, 1) := by decide +kernel
theorem dX12_bits_3 : decode cX12_bits 3 = .ok (.istore_n 2, 1) := by decide +kernel
theorem dX12_bits_4 : decode cX12_bits 4 = .ok (.iload_n 2, 1) := by decide +kernel
theorem dX12_bits_5 : decode cX12_bits 5 = .ok (.ifCond .eq 15, 3) := by decide +kernel
theorem dX12_bits_20 : decode cX12_bits 20 = .ok (.iload_n 1, 1) := by decide +kernel
theorem dX12_bits_21 : decode cX12_bits 21 = .ok (.ireturn, 1) := by decide +kernel
theorem dX12_bits_8 : decode cX12_bits 8 = .ok (.iinc 1 1, 3) := by decide +kernel
theorem dX12_bits_11 : decode cX12_bits 11 = .ok (.iload_n 2, 1) := by decide +kernel
theorem dX12_bits_12 : decode cX12_bits 12 = .ok (.iload_n 2, 1) := by decide +kernel
theorem dX12_bits_13 : decode cX12_bits 13 = .ok (.iconst 1, 1) := by decide +kernel
theorem dX12_bits_14 : decode cX12_bits 14 = .ok (.isub, 1) := by decide +kernel
theorem dX12_bits_15 : decode cX12_bits 15 = .ok (.iand, 1) := by decide +kernel
theorem dX12_bits_16 : decode cX12_bits 16 = .ok (.istore_n 2, 1) := by decide +kernel
theorem dX12_bits_17 : decode cX12_bits 17 = .ok (.goto (-13), 3) := by decide +kernel
set_option maxHeartbeats 4000000 in
set_option maxRecDepth 100000 in
theorem c_M_bits (l : Launch) (D : va_G) (cs : Nat → ClassId) (a : Int32) (r_a : Rg 0 255 a) : Met l yX12_bits (Cond.code yX12_bits cX12_bits 3 (some .int) :: TB) (RM 0 0 0) (va_Pc [.int a] (PRR D cs [])) (k2_QcV (.int (nI (pc (cN a))))) 0 0 (fun _ => False) := by
  refine MER (y := yX12_bits) (cc := cX12_bits) (maxL := 3) (ret := (some .int)) (d := 0) (D := D) (cs := cs) (ws := []) (av := [.int a]) (Qc := k2_QcV (.int (nI (pc (cN a))))) (by decide) (Nat.le_of_ble_eq_true rfl) ?_
  intro p e s m below meth c ls H hHe hx hb hr hml hown hts hlocks hP hK hN hl
  obtain ⟨locs, hlc⟩ : ∃ z : List Loc, z = [] := ⟨_, rfl⟩
  rw [← hlc]
  have hown : s.vm.findClass "WrongHoleModel" = some m.cls := hown
  have hT : ∀ w ∈ TB, w.before ([.int a] : List Value).toArray s = true := fun w h => hts w (List.mem_cons_of_mem _ h)
  have hl : lv_has ls 3 [(0, .int a)] := hl
  have hP : va_P D vwCl [] H := hP
  refine lv_iconst (v := 0) hx hb dX12_bits_0 (by decide) ?_
  refine lv_istore_n (lv' := [(1, .int 0), (0, .int a)]) hx hb dX12_bits_1 rfl hl (by decide) rfl (fun ls hl => ?_)
  refine lv_iload_n hx hb dX12_bits_2 rfl (lv_at hl 1 rfl) ?_
  refine lv_istore_n (lv' := [(2, .int a), (1, .int 0), (0, .int a)]) hx hb dX12_bits_3 rfl hl (by decide) rfl (fun ls hl => ?_)
  refine w_wh (σ := (Int32) × (Int32)) (fun x9 H locs ls => match x9 with | (v_16, v_17) => Rg 0 255 v_16 ∧ Rg 0 8 v_17 ∧ (cN v_17 + pc (cN v_16) = pc (cN a)) ∧ H = s.heap ∧ locs = [] ∧ va_P D vwCl [] H ∧ lv_has ls 3 [(2, .int v_16), (1, .int v_17), (0, .int a)]) (fun x9 => match x9 with | (v_16, v_17) => cN v_16) 4 ?_ (a, 0) H locs ls ⟨r_a, (Rg.wk (lo2 := 0) (hi2 := 8) (Rg.c (c := 0) (k := 0) rfl) (by decide)), (Nat.zero_add _), hHe, hlc, hP, lv_sub hl [0, 1, 2] rfl⟩
  rintro ⟨v_16, v_17⟩ H locs ls ⟨r_103, r_104, iv_105, hHe, hlc, hP, hl⟩ ih_102
  refine lv_iload_n hx hb dX12_bits_4 rfl (lv_at hl 0 rfl) ?_
  refine lv_if_eq (tgt := 20) hx hb dX12_bits_5 (by decide) (fun c_106 => ?_) (fun c_106 => ?_)
  · have r_107 : Rg 0 0 v_16 := Rg.eq_l c_106 r_103 (Rg.c (c := 0) (k := 0) rfl) (by decide)
    refine lv_iload_n hx hb dX12_bits_20 rfl (lv_at hl 1 rfl) ?_
    exact W.iret (v := v_17) hx hb hr (fun t9 ht9 hW9 => ⟨by rw [show (.int (nI (pc (cN a))) : Value) = .int v_17 from (congrArg Value.int (bits_end iv_105 c_106 r_104).symm)], ht9.trans hHe⟩) (fun _ h9 => by rw [hlc] at h9; exact absurd h9 List.not_mem_nil) dX12_bits_21
  · have r_108 : Rg 1 255 v_16 := Rg.ne c_106 r_103 (Rg.c (c := 0) (k := 0) rfl) (by decide)
    have r_118 : Rg 0 7 v_17 := bi_7 iv_105 r_104 (Rg.wk (lo2 := 0) (hi2 := 255) r_108 (by decide)) c_106
    obtain ⟨x_119, e_120⟩ : ∃ z : Int32, z = v_17 + Int32.ofInt 1 := ⟨_, rfl⟩
    have r_121 : Rg 1 8 x_119 := Rg.add e_120 r_118 (Rg.c (c := Int32.ofInt 1) (k := 1) rfl) (by decide)
    refine lv_iinc (v := x_119) (lv' := [(1, .int x_119), (2, .int v_16), (0, .int a)]) hx hb dX12_bits_8 hl (k := 1) rfl (e_120.symm) (by decide) rfl (fun ls hl => ?_)
    refine lv_iload_n hx hb dX12_bits_11 rfl (lv_at hl 1 rfl) ?_
    refine lv_iload_n hx hb dX12_bits_12 rfl (lv_at hl 1 rfl) ?_
    refine lv_iconst (v := 1) hx hb dX12_bits_13 (by decide) ?_
    refine lv_isub hx hb dX12_bits_14 ?_
    refine lv_topi (fun x_122 e_123 => ?_)
    have r_124 : Rg 0 254 x_122 := Rg.sub e_123 r_108 (Rg.c (c := 1) (k := 1) rfl) (by decide)
    refine lv_iand hx hb dX12_bits_15 ?_
    refine lv_topi (fun x_125 e_126 => ?_)
    have r_127 : Rg 0 254 x_125 := Rg.and e_126 r_124 (by decide)
    refine lv_istore_n (lv' := [(2, .int x_125), (1, .int x_119), (0, .int a)]) hx hb dX12_bits_16 rfl hl (by decide) rfl (fun ls hl => ?_)
    refine lv_goto (tgt := 4) hx hb dX12_bits_17 (by decide) ?_
    exact ih_102 (x_125, x_119) _ _ _ ⟨(Rg.wk (lo2 := 0) (hi2 := 255) r_127 (by decide)), (Rg.wk (lo2 := 0) (hi2 := 8) r_121 (by decide)), (by have h9 := bs_x (Rg.wk (lo2 := 0) (hi2 := 255) r_108 (by decide)) c_106 e_123 e_126; rw [cN_add (k := 1) e_120 r_118 (Rg.c (c := Int32.ofInt 1) (k := 1) rfl) (by decide)]; have := iv_105; omega), hHe, hlc, hP, lv_sub hl [0, 1, 2] rfl⟩ ((bs_x (Rg.wk (lo2 := 0) (hi2 := 255) r_108 (by decide)) c_106 e_123 e_126).2.1)
theorem dX12_inOf_0 : decode cX12_inOf 0 = .ok (.iload_n 0, 1) := by decide +kernel
theorem dX12_inOf_1 : decode cX12_inOf 1 = .ok (.sipush 255, 3) := by decide +kernel
theorem dX12_inOf_4 : decode cX12_inOf 4 = .ok (.iand, 1) := by decide +kernel
theorem dX12_inOf_5 : decode cX12_inOf 5 = .ok (.ireturn, 1) := by decide +kernel
set_option maxHeartbeats 4000000 in
set_option maxRecDepth 100000 in
theorem c_M_inOf (l : Launch) (D : va_G) (cs : Nat → ClassId) (a : Int32) (r_a : Rg 0 65535 a) : Met l yX12_inOf (Cond.code yX12_inOf cX12_inOf 1 (some .int) :: TB) (RM 0 0 0) (va_Pc [.int a] (PRR D cs [])) (k2_QcV (.int (nI (cN a % 256)))) 0 0 (fun _ => False) := by
  refine MER (y := yX12_inOf) (cc := cX12_inOf) (maxL := 1) (ret := (some .int)) (d := 0) (D := D) (cs := cs) (ws := []) (av := [.int a]) (Qc := k2_QcV (.int (nI (cN a % 256)))) (by decide) (Nat.le_of_ble_eq_true rfl) ?_
  intro p e s m below meth c ls H hHe hx hb hr hml hown hts hlocks hP hK hN hl
  obtain ⟨locs, hlc⟩ : ∃ z : List Loc, z = [] := ⟨_, rfl⟩
  rw [← hlc]
  have hown : s.vm.findClass "WrongHoleModel" = some m.cls := hown
  have hT : ∀ w ∈ TB, w.before ([.int a] : List Value).toArray s = true := fun w h => hts w (List.mem_cons_of_mem _ h)
  have hl : lv_has ls 1 [(0, .int a)] := hl
  have hP : va_P D vwCl [] H := hP
  refine lv_iload_n hx hb dX12_inOf_0 rfl (lv_at hl 0 rfl) ?_
  refine lv_sipush (v := 255) hx hb dX12_inOf_1 (by decide) ?_
  refine lv_iand hx hb dX12_inOf_4 ?_
  refine lv_topi (fun x_1 e_2 => ?_)
  have r_3 : Rg 0 255 x_1 := Rg.and e_2 (Rg.c (c := 255) (k := 255) rfl) (by decide)
  exact W.iret (v := x_1) hx hb hr (fun t9 ht9 hW9 => ⟨by rw [show (.int (nI (cN a % 256)) : Value) = .int x_1 from (congrArg Value.int (k_held e_2 r_a).symm)], ht9.trans hHe⟩) (fun _ h9 => by rw [hlc] at h9; exact absurd h9 List.not_mem_nil) dX12_inOf_5
theorem dX12_heldOf_0 : decode cX12_heldOf 0 = .ok (.iload_n 0, 1) := by decide +kernel
theorem dX12_heldOf_1 : decode cX12_heldOf 1 = .ok (.bipush 8, 2) := by decide +kernel
theorem dX12_heldOf_3 : decode cX12_heldOf 3 = .ok (.ishr, 1) := by decide +kernel
theorem dX12_heldOf_4 : decode cX12_heldOf 4 = .ok (.ireturn, 1) := by decide +kernel
set_option maxHeartbeats 4000000 in
set_option maxRecDepth 100000 in
theorem c_M_heldOf (l : Launch) (D : va_G) (cs : Nat → ClassId) (a : Int32) (r_a : Rg 0 65535 a) : Met l yX12_heldOf (Cond.code yX12_heldOf cX12_heldOf 1 (some .int) :: TB) (RM 0 0 0) (va_Pc [.int a] (PRR D cs [])) (k2_QcV (.int (nI (cN a / 256)))) 0 0 (fun _ => False) := by
  refine MER (y := yX12_heldOf) (cc := cX12_heldOf) (maxL := 1) (ret := (some .int)) (d := 0) (D := D) (cs := cs) (ws := []) (av := [.int a]) (Qc := k2_QcV (.int (nI (cN a / 256)))) (by decide) (Nat.le_of_ble_eq_true rfl) ?_
  intro p e s m below meth c ls H hHe hx hb hr hml hown hts hlocks hP hK hN hl
  obtain ⟨locs, hlc⟩ : ∃ z : List Loc, z = [] := ⟨_, rfl⟩
  rw [← hlc]
  have hown : s.vm.findClass "WrongHoleModel" = some m.cls := hown
  have hT : ∀ w ∈ TB, w.before ([.int a] : List Value).toArray s = true := fun w h => hts w (List.mem_cons_of_mem _ h)
  have hl : lv_has ls 1 [(0, .int a)] := hl
  have hP : va_P D vwCl [] H := hP
  refine lv_iload_n hx hb dX12_heldOf_0 rfl (lv_at hl 0 rfl) ?_
  refine lv_bipush (v := 8) hx hb dX12_heldOf_1 (by decide) ?_
  refine lv_ishr hx hb dX12_heldOf_3 ?_
  refine lv_topi (fun x_1 e_2 => ?_)
  have r_3 : Rg 0 255 x_1 := Rg.shr (k := 8) e_2 r_a rfl (by decide)
  exact W.iret (v := x_1) hx hb hr (fun t9 ht9 hW9 => ⟨by rw [show (.int (nI (cN a / 256)) : Value) = .int x_1 from (congrArg Value.int (sh_8 e_2 r_a).symm)], ht9.trans hHe⟩) (fun _ h9 => by rw [hlc] at h9; exact absurd h9 List.not_mem_nil) dX12_heldOf_4
theorem dX12_nth_0 : decode cX12_nth 0 = .ok (.iload_n 1, 1) := by decide +kernel
theorem dX12_nth_1 : decode cX12_nth 1 = .ok (.istore_n 2, 1) := by decide +kernel
theorem dX12_nth_2 : decode cX12_nth 2 = .ok (.iconst 0, 1) := by decide +kernel
theorem dX12_nth_3 : decode cX12_nth 3 = .ok (.istore_n 3, 1) := by decide +kernel
theorem dX12_nth_4 : decode cX12_nth 4 = .ok (.iload_n 2, 1) := by decide +kernel
theorem dX12_nth_5 : decode cX12_nth 5 = .ok (.ifCond .gt 11, 3) := by decide +kernel
theorem dX12_nth_16 : decode cX12_nth 16 = .ok (.iload_n 2, 1) := by decide +kernel
theorem dX12_nth_17 : decode cX12_nth 17 = .ok (.iload_n 0, 1) := by decide +kernel
theorem dX12_nth_18 : decode cX12_nth 18 = .ok (.iload_n 3, 1) := by decide +kernel
theorem dX12_nth_19 : decode cX12_nth 19 = .ok (.invokestatic 332, 3) := by decide +kernel
theorem qq_7_72 : Cond.code yX12_isOf cX12_isOf 2 (some .boolean) ∈ TB := mk_tb (ti_7 (List.mem_of_getElem? (i := 72) rfl)) rfl
theorem qq_1_9 : Cond.initialized "WrongHoleModel" ∈ TB := mk_tb (ti_1 (List.mem_of_getElem? (i := 9) rfl)) rfl
theorem qq_7_70 : Cond.methodLink "WrongHoleModel" 332 yX12_isOf ∈ TB := mk_tb (ti_7 (List.mem_of_getElem? (i := 70) rfl)) rfl
theorem qq_7_71 : Cond.static yX12_isOf ∈ TB := mk_tb (ti_7 (List.mem_of_getElem? (i := 71) rfl)) rfl
theorem dX12_nth_22 : decode cX12_nth 22 = .ok (.ifCond .eq 7, 3) := by decide +kernel
theorem dX12_nth_30 : decode cX12_nth 30 = .ok (.isub, 1) := by decide +kernel
theorem dX12_nth_31 : decode cX12_nth 31 = .ok (.istore_n 2, 1) := by decide +kernel
theorem dX12_nth_32 : decode cX12_nth 32 = .ok (.iinc 3 1, 3) := by decide +kernel
theorem dX12_nth_35 : decode cX12_nth 35 = .ok (.goto (-31), 3) := by decide +kernel
theorem dX12_nth_29 : decode cX12_nth 29 = .ok (.iconst 0, 1) := by decide +kernel
theorem dX12_nth_25 : decode cX12_nth 25 = .ok (.iconst 1, 1) := by decide +kernel
theorem dX12_nth_26 : decode cX12_nth 26 = .ok (.goto 4, 3) := by decide +kernel
theorem dX12_nth_8 : decode cX12_nth 8 = .ok (.iload_n 0, 1) := by decide +kernel
theorem dX12_nth_9 : decode cX12_nth 9 = .ok (.iload_n 3, 1) := by decide +kernel
theorem dX12_nth_10 : decode cX12_nth 10 = .ok (.invokestatic 332, 3) := by decide +kernel
theorem dX12_nth_13 : decode cX12_nth 13 = .ok (.ifCond .ne 25, 3) := by decide +kernel
theorem dX12_nth_38 : decode cX12_nth 38 = .ok (.iload_n 3, 1) := by decide +kernel
theorem dX12_nth_39 : decode cX12_nth 39 = .ok (.ireturn, 1) := by decide +kernel
set_option maxHeartbeats 4000000 in
set_option maxRecDepth 100000 in
theorem c_M_nth (l : Launch) (D : va_G) (cs : Nat → ClassId) (a : Int32) (b : Int32) (r_a : Rg 0 255 a) (r_b : Rg 0 8 b) (hlt : cN b < pc (cN a)) : Met l yX12_nth (Cond.code yX12_nth cX12_nth 4 (some .int) :: TB) (RM 1 0 0) (va_Pc [.int a, .int b] (PRR D cs [])) (k2_QcV (.int (nI (nthF (cN a) (cN b))))) 0 0 (fun _ => False) := by
  refine MER (y := yX12_nth) (cc := cX12_nth) (maxL := 4) (ret := (some .int)) (d := 1) (D := D) (cs := cs) (ws := []) (av := [.int a, .int b]) (Qc := k2_QcV (.int (nI (nthF (cN a) (cN b))))) (by decide) (Nat.le_of_ble_eq_true rfl) ?_
  intro p e s m below meth c ls H hHe hx hb hr hml hown hts hlocks hP hK hN hl
  obtain ⟨locs, hlc⟩ : ∃ z : List Loc, z = [] := ⟨_, rfl⟩
  rw [← hlc]
  have hown : s.vm.findClass "WrongHoleModel" = some m.cls := hown
  have hT : ∀ w ∈ TB, w.before ([.int a, .int b] : List Value).toArray s = true := fun w h => hts w (List.mem_cons_of_mem _ h)
  have hl : lv_has ls 4 [(0, .int a), (1, .int b)] := hl
  have hP : va_P D vwCl [] H := hP
  refine lv_iload_n hx hb dX12_nth_0 rfl (lv_at hl 1 rfl) ?_
  refine lv_istore_n (lv' := [(2, .int b), (0, .int a), (1, .int b)]) hx hb dX12_nth_1 rfl hl (by decide) rfl (fun ls hl => ?_)
  refine lv_iconst (v := 0) hx hb dX12_nth_2 (by decide) ?_
  refine lv_istore_n (lv' := [(3, .int 0), (2, .int b), (0, .int a), (1, .int b)]) hx hb dX12_nth_3 rfl hl (by decide) rfl (fun ls hl => ?_)
  refine w_wh (σ := (Int32) × (Int32)) (fun x9 H locs ls => match x9 with | (v_50, v_51) => Rg 0 8 v_50 ∧ Rg 0 8 v_51 ∧ (cN v_51 + pc (cN a % 2 ^ cN v_50) = cN b) ∧ H = s.heap ∧ locs = [] ∧ va_P D vwCl [] H ∧ lv_has ls 4 [(3, .int v_50), (2, .int v_51), (0, .int a), (1, .int b)]) (fun x9 => match x9 with | (v_50, v_51) => (9 - Int32.toInt v_50).toNat) 4 ?_ (0, b) H locs ls ⟨(Rg.wk (lo2 := 0) (hi2 := 8) (Rg.c (c := 0) (k := 0) rfl) (by decide)), r_b, (by rw [show cN 0 = 0 from rfl, pc_m0]; rfl), hHe, hlc, hP, lv_sub hl [0, 1, 2, 3] rfl⟩
  rintro ⟨v_50, v_51⟩ H locs ls ⟨r_297, r_298, iv_299, hHe, hlc, hP, hl⟩ ih_296
  refine lv_iload_n hx hb dX12_nth_4 rfl (lv_at hl 1 rfl) ?_
  refine lv_if_gt (tgt := 16) hx hb dX12_nth_5 (by decide) (fun c_300 => ?_) (fun c_300 => ?_)
  · have r_301 : Rg 1 8 v_51 := Rg.lt_r c_300 (Rg.c (c := 0) (k := 0) rfl) r_298 (by decide)
    refine lv_iload_n hx hb dX12_nth_16 rfl (lv_at hl 1 rfl) ?_
    refine lv_iload_n hx hb dX12_nth_17 rfl (lv_at hl 2 rfl) ?_
    refine lv_iload_n hx hb dX12_nth_18 rfl (lv_at hl 0 rfl) ?_
    have hPc := va_P.sub (ws' := []) hP [] rfl
    refine cl_V (W.runS (As := [.int a, .int v_50]) (rest := [.int v_51]) ⟨hx, hb, hml, hown, hts⟩ (c_M_isOf l D cs a v_50 r_a (nt_lt iv_299 r_a r_297 hlt)) ⟨callB_of 2 hts (gd_C qq_7_72) rfl rfl rfl (hT _ qq_1_9) (hT _ qq_7_70) (by decide +kernel) (rm_R rfl rfl), (hT _ qq_7_71)⟩ (pq_S hPc hK hN) rfl rfl hl.1 rfl (lv_room (Nat.le_of_ble_eq_true rfl)) dX12_nth_19 ⟨Nat.le_of_ble_eq_true rfl, Nat.le_of_ble_eq_true rfl⟩) ?_
    refine lv_topi (fun x_316 e_317 => ?_)
    have r_318 : Rg 0 1 x_316 := Rg.of e_317 (bt_rg _ _)
    refine w_cut (σ := (Int32)) (fun (v_322 : Int32) H locs ls => Rg 0 1 v_322 ∧ (v_322 = nI (bt (cN a) (cN v_50))) ∧ H = s.heap ∧ locs = [] ∧ va_P D vwCl [] H ∧ lv_has ls 4 [(3, .int v_50), (2, .int v_51), (0, .int a), (1, .int b)]) 30 (fun (v_322 : Int32) => [.int v_322, .int v_51]) ?_ (fun hj_323 => ?_)
    · rintro v_322 H locs ls ⟨r_324, iv_325, hHe, hlc, hP, hl⟩
      refine lv_isub hx hb dX12_nth_30 ?_
      refine lv_topi (fun x_326 e_327 => ?_)
      have r_328 : Rg 0 8 x_326 := Rg.sub e_327 r_301 r_324 (by decide)
      refine lv_istore_n (lv' := [(2, .int x_326), (3, .int v_50), (0, .int a), (1, .int b)]) hx hb dX12_nth_31 rfl hl (by decide) rfl (fun ls hl => ?_)
      have r_329 : Rg 0 8 x_326 := (nt_step (k2 := v_50 + 1) iv_299 r_a (nt_lt iv_299 r_a r_297 hlt) (Rg.wk (lo2 := 0) (hi2 := 8) r_301 (by decide)) iv_325 e_327 (cN_add (k := 1) rfl (nt_lt iv_299 r_a r_297 hlt) (Rg.c rfl) (by decide)) (Or.inl (pos_l (Rg.wk (lo2 := 0) (hi2 := 8) r_301 (by decide)) c_300))).2
      obtain ⟨x_330, e_331⟩ : ∃ z : Int32, z = v_50 + Int32.ofInt 1 := ⟨_, rfl⟩
      have r_332 : Rg 1 8 x_330 := Rg.add e_331 (nt_lt iv_299 r_a r_297 hlt) (Rg.c (c := Int32.ofInt 1) (k := 1) rfl) (by decide)
      refine lv_iinc (v := x_330) (lv' := [(3, .int x_330), (2, .int x_326), (0, .int a), (1, .int b)]) hx hb dX12_nth_32 hl (k := 1) rfl (e_331.symm) (by decide) rfl (fun ls hl => ?_)
      refine lv_goto (tgt := 4) hx hb dX12_nth_35 (by decide) ?_
      exact ih_296 (x_330, x_326) _ _ _ ⟨(Rg.wk (lo2 := 0) (hi2 := 8) r_332 (by decide)), r_329, (nt_step iv_299 r_a (nt_lt iv_299 r_a r_297 hlt) (Rg.wk (lo2 := 0) (hi2 := 8) r_301 (by decide)) iv_325 e_327 (cN_add (k := 1) e_331 (nt_lt iv_299 r_a r_297 hlt) (Rg.c (c := Int32.ofInt 1) (k := 1) rfl) (by decide)) (Or.inl (pos_l (Rg.wk (lo2 := 0) (hi2 := 8) r_301 (by decide)) c_300))).1, hHe, hlc, hP, lv_sub hl [0, 1, 2, 3] rfl⟩ (ms_up e_331 (nt_lt iv_299 r_a r_297 hlt) (Rg.c (c := Int32.ofInt 1) (k := 1) rfl) (by decide))
    · refine lv_if_eq (tgt := 29) hx hb dX12_nth_22 (by decide) (fun c_319 => ?_) (fun c_319 => ?_)
      · have r_320 : Rg 0 0 x_316 := Rg.eq_l c_319 r_318 (Rg.c (c := 0) (k := 0) rfl) (by decide)
        refine lv_iconst (v := 0) hx hb dX12_nth_29 (by decide) ?_
        exact hj_323 0 _ _ _ ⟨(Rg.wk (lo2 := 0) (hi2 := 1) (Rg.c (c := 0) (k := 0) rfl) (by decide)), (by rw [bz_0 e_317 c_319]; rfl), hHe, hlc, hP, lv_sub hl [0, 1, 2, 3] rfl⟩
      · have r_321 : Rg 1 1 x_316 := Rg.ne c_319 r_318 (Rg.c (c := 0) (k := 0) rfl) (by decide)
        refine lv_iconst (v := 1) hx hb dX12_nth_25 (by decide) ?_
        refine lv_goto (tgt := 30) hx hb dX12_nth_26 (by decide) ?_
        exact hj_323 1 _ _ _ ⟨(Rg.wk (lo2 := 0) (hi2 := 1) (Rg.c (c := 1) (k := 1) rfl) (by decide)), (by rw [bz_1 e_317 c_319]; rfl), hHe, hlc, hP, lv_sub hl [0, 1, 2, 3] rfl⟩
  · have r_302 : Rg 0 0 v_51 := Rg.le_l (nlt_le c_300) r_298 (Rg.c (c := 0) (k := 0) rfl) (by decide)
    refine lv_iload_n hx hb dX12_nth_8 rfl (lv_at hl 2 rfl) ?_
    refine lv_iload_n hx hb dX12_nth_9 rfl (lv_at hl 0 rfl) ?_
    have hPc := va_P.sub (ws' := []) hP [] rfl
    refine cl_V (W.runS (As := [.int a, .int v_50]) (rest := []) ⟨hx, hb, hml, hown, hts⟩ (c_M_isOf l D cs a v_50 r_a (nt_lt iv_299 r_a r_297 hlt)) ⟨callB_of 2 hts (gd_C qq_7_72) rfl rfl rfl (hT _ qq_1_9) (hT _ qq_7_70) (by decide +kernel) (rm_R rfl rfl), (hT _ qq_7_71)⟩ (pq_S hPc hK hN) rfl rfl hl.1 rfl (lv_room (Nat.le_of_ble_eq_true rfl)) dX12_nth_10 ⟨Nat.le_of_ble_eq_true rfl, Nat.le_of_ble_eq_true rfl⟩) ?_
    refine lv_topi (fun x_333 e_334 => ?_)
    have r_335 : Rg 0 1 x_333 := Rg.of e_334 (bt_rg _ _)
    refine lv_if_ne (tgt := 38) hx hb dX12_nth_13 (by decide) (fun c_336 => ?_) (fun c_336 => ?_)
    · have r_337 : Rg 1 1 x_333 := Rg.ne c_336 r_335 (Rg.c (c := 0) (k := 0) rfl) (by decide)
      refine lv_iload_n hx hb dX12_nth_38 rfl (lv_at hl 0 rfl) ?_
      exact W.iret (v := v_50) hx hb hr (fun t9 ht9 hW9 => ⟨by rw [show (.int (nI (nthF (cN a) (cN b))) : Value) = .int v_50 from (congrArg Value.int (nt_end iv_299 r_a (nt_lt iv_299 r_a r_297 hlt) (Rg.wk (lo2 := 0) (hi2 := 8) r_302 (by decide)) c_300 (bz_1 e_334 c_336)).symm)], ht9.trans hHe⟩) (fun _ h9 => by rw [hlc] at h9; exact absurd h9 List.not_mem_nil) dX12_nth_39
    · have r_338 : Rg 0 0 x_333 := Rg.eq_l c_336 r_335 (Rg.c (c := 0) (k := 0) rfl) (by decide)
      refine lv_iload_n hx hb dX12_nth_16 rfl (lv_at hl 1 rfl) ?_
      refine lv_iload_n hx hb dX12_nth_17 rfl (lv_at hl 2 rfl) ?_
      refine lv_iload_n hx hb dX12_nth_18 rfl (lv_at hl 0 rfl) ?_
      have hPc := va_P.sub (ws' := []) hP [] rfl
      refine cl_V (W.runS (As := [.int a, .int v_50]) (rest := [.int v_51]) ⟨hx, hb, hml, hown, hts⟩ (c_M_isOf l D cs a v_50 r_a (nt_lt iv_299 r_a r_297 hlt)) ⟨callB_of 2 hts (gd_C qq_7_72) rfl rfl rfl (hT _ qq_1_9) (hT _ qq_7_70) (by decide +kernel) (rm_R rfl rfl), (hT _ qq_7_71)⟩ (pq_S hPc hK hN) rfl rfl hl.1 rfl (lv_room (Nat.le_of_ble_eq_true rfl)) dX12_nth_19 ⟨Nat.le_of_ble_eq_true rfl, Nat.le_of_ble_eq_true rfl⟩) ?_
      refine lv_topi (fun x_352 e_353 => ?_)
      have r_354 : Rg 0 1 x_352 := Rg.of e_353 (bt_rg _ _)
      refine w_cut (σ := (Int32)) (fun (v_358 : Int32) H locs ls => Rg 0 1 v_358 ∧ (v_358 = nI (bt (cN a) (cN v_50))) ∧ H = s.heap ∧ locs = [] ∧ va_P D vwCl [] H ∧ lv_has ls 4 [(3, .int v_50), (2, .int v_51), (0, .int a), (1, .int b)]) 30 (fun (v_358 : Int32) => [.int v_358, .int v_51]) ?_ (fun hj_359 => ?_)
      · rintro v_358 H locs ls ⟨r_360, iv_361, hHe, hlc, hP, hl⟩
        refine lv_isub hx hb dX12_nth_30 ?_
        refine lv_topi (fun x_362 e_363 => ?_)
        have r_364 : Rg (-1) 0 x_362 := Rg.sub e_363 r_302 r_360 (by decide)
        refine lv_istore_n (lv' := [(2, .int x_362), (3, .int v_50), (0, .int a), (1, .int b)]) hx hb dX12_nth_31 rfl hl (by decide) rfl (fun ls hl => ?_)
        have r_365 : Rg 0 8 x_362 := (nt_step (k2 := v_50 + 1) iv_299 r_a (nt_lt iv_299 r_a r_297 hlt) (Rg.wk (lo2 := 0) (hi2 := 8) r_302 (by decide)) iv_361 e_363 (cN_add (k := 1) rfl (nt_lt iv_299 r_a r_297 hlt) (Rg.c rfl) (by decide)) (Or.inr (bz_0 e_334 c_336))).2
        obtain ⟨x_366, e_367⟩ : ∃ z : Int32, z = v_50 + Int32.ofInt 1 := ⟨_, rfl⟩
        have r_368 : Rg 1 8 x_366 := Rg.add e_367 (nt_lt iv_299 r_a r_297 hlt) (Rg.c (c := Int32.ofInt 1) (k := 1) rfl) (by decide)
        refine lv_iinc (v := x_366) (lv' := [(3, .int x_366), (2, .int x_362), (0, .int a), (1, .int b)]) hx hb dX12_nth_32 hl (k := 1) rfl (e_367.symm) (by decide) rfl (fun ls hl => ?_)
        refine lv_goto (tgt := 4) hx hb dX12_nth_35 (by decide) ?_
        exact ih_296 (x_366, x_362) _ _ _ ⟨(Rg.wk (lo2 := 0) (hi2 := 8) r_368 (by decide)), r_365, (nt_step iv_299 r_a (nt_lt iv_299 r_a r_297 hlt) (Rg.wk (lo2 := 0) (hi2 := 8) r_302 (by decide)) iv_361 e_363 (cN_add (k := 1) e_367 (nt_lt iv_299 r_a r_297 hlt) (Rg.c (c := Int32.ofInt 1) (k := 1) rfl) (by decide)) (Or.inr (bz_0 e_334 c_336))).1, hHe, hlc, hP, lv_sub hl [0, 1, 2, 3] rfl⟩ (ms_up e_367 (nt_lt iv_299 r_a r_297 hlt) (Rg.c (c := Int32.ofInt 1) (k := 1) rfl) (by decide))
      · refine lv_if_eq (tgt := 29) hx hb dX12_nth_22 (by decide) (fun c_355 => ?_) (fun c_355 => ?_)
        · have r_356 : Rg 0 0 x_352 := Rg.eq_l c_355 r_354 (Rg.c (c := 0) (k := 0) rfl) (by decide)
          refine lv_iconst (v := 0) hx hb dX12_nth_29 (by decide) ?_
          exact hj_359 0 _ _ _ ⟨(Rg.wk (lo2 := 0) (hi2 := 1) (Rg.c (c := 0) (k := 0) rfl) (by decide)), (by rw [bz_0 e_353 c_355]; rfl), hHe, hlc, hP, lv_sub hl [0, 1, 2, 3] rfl⟩
        · have r_357 : Rg 1 1 x_352 := Rg.ne c_355 r_354 (Rg.c (c := 0) (k := 0) rfl) (by decide)
          refine lv_iconst (v := 1) hx hb dX12_nth_25 (by decide) ?_
          refine lv_goto (tgt := 30) hx hb dX12_nth_26 (by decide) ?_
          exact hj_359 1 _ _ _ ⟨(Rg.wk (lo2 := 0) (hi2 := 1) (Rg.c (c := 1) (k := 1) rfl) (by decide)), (by rw [bz_1 e_353 c_355]; rfl), hHe, hlc, hP, lv_sub hl [0, 1, 2, 3] rfl⟩
