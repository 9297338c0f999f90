theorem dX11_drawnFrom_0 : decode cX11_drawnFrom 0 = .ok (.iload_n 0, 1) := by decide +kernel
theorem dX11_drawnFrom_1 : decode cX11_drawnFrom 1 = .ok (.ldc_w 357, 3) := by decide +kernel
theorem qq_5_122 : Cond.constant "WrongHole" 357 1103515245 ∈ TB := mk_tb (ti_5 (List.mem_of_getElem? (i := 122) rfl)) rfl
theorem dX11_drawnFrom_4 : decode cX11_drawnFrom 4 = .ok (.imul, 1) := by decide +kernel
theorem dX11_drawnFrom_5 : decode cX11_drawnFrom 5 = .ok (.sipush 12345, 3) := by decide +kernel
theorem dX11_drawnFrom_8 : decode cX11_drawnFrom 8 = .ok (.iadd, 1) := by decide +kernel
theorem dX11_drawnFrom_9 : decode cX11_drawnFrom 9 = .ok (.ldc_w 358, 3) := by decide +kernel
theorem qq_5_123 : Cond.constant "WrongHole" 358 2147483647 ∈ TB := mk_tb (ti_5 (List.mem_of_getElem? (i := 123) rfl)) rfl
theorem dX11_drawnFrom_12 : decode cX11_drawnFrom 12 = .ok (.iand, 1) := by decide +kernel
theorem dX11_drawnFrom_13 : decode cX11_drawnFrom 13 = .ok (.ireturn, 1) := by decide +kernel
set_option maxHeartbeats 4000000 in
set_option maxRecDepth 100000 in
theorem c_W_drawnFrom (l : Launch) (D : va_G) (cs : Nat → ClassId) (a : Int32)  : Met l yX11_drawnFrom (Cond.code yX11_drawnFrom cX11_drawnFrom 1 (some .int) :: TB) (RM 0 0 0) (va_Pc [.int a] (PRR D cs [])) (QP (fun v => ∃ x : Int32, v = .int x ∧ Rg 0 2147483647 x)) 0 0 (fun _ => False) := by
  refine MER (y := yX11_drawnFrom) (cc := cX11_drawnFrom) (maxL := 1) (ret := (some .int)) (d := 0) (D := D) (cs := cs) (ws := []) (av := [.int a]) (Qc := QP (fun v => ∃ x : Int32, v = .int x ∧ Rg 0 2147483647 x)) (by decide) (Nat.le_of_ble_eq_true rfl) ?_
  intro p e s m below meth c ls H hHe hx hb hr hml hown hts hlocks hP hK hN hl
  obtain ⟨locs, hlc⟩ : ∃ z : List Loc, z = [] := ⟨_, rfl⟩
  rw [← hlc]
  have hown : s.vm.findClass "WrongHole" = some m.cls := hown
  have hT : ∀ w ∈ TB, w.before ([.int a] : List Value).toArray s = true := fun w h => hts w (List.mem_cons_of_mem _ h)
  have hl : lv_has ls 1 [(0, .int a)] := hl
  have hP : va_P D vwCl [] H := hP
  refine lv_iload_n hx hb dX11_drawnFrom_0 rfl (lv_at hl 0 rfl) ?_
  refine lv_ldcw (v := 1103515245) hx hb hown (hT _ qq_5_122) dX11_drawnFrom_1 ?_
  refine lv_imul hx hb dX11_drawnFrom_4 ?_
  refine lv_topi (fun x_1 e_2 => ?_)
  refine lv_sipush (v := 12345) hx hb dX11_drawnFrom_5 (by decide) ?_
  refine lv_iadd hx hb dX11_drawnFrom_8 ?_
  refine lv_topi (fun x_3 e_4 => ?_)
  refine lv_ldcw (v := 2147483647) hx hb hown (hT _ qq_5_123) dX11_drawnFrom_9 ?_
  refine lv_iand hx hb dX11_drawnFrom_12 ?_
  refine lv_topi (fun x_5 e_6 => ?_)
  have r_7 : Rg 0 2147483647 x_5 := Rg.and e_6 (Rg.c (c := 2147483647) (k := 2147483647) rfl) (by decide)
  exact W.iret (v := x_5) hx hb hr (fun t9 ht9 hW9 => ⟨⟨_, rfl, _, rfl, r_7⟩, ht9.trans hHe⟩) (fun _ h9 => by rw [hlc] at h9; exact absurd h9 List.not_mem_nil) dX11_drawnFrom_13
theorem dX11_commonDivisor_0 : decode cX11_commonDivisor 0 = .ok (.iload_n 0, 1) := by decide +kernel
theorem dX11_commonDivisor_1 : decode cX11_commonDivisor 1 = .ok (.istore_n 2, 1) := by decide +kernel
theorem dX11_commonDivisor_2 : decode cX11_commonDivisor 2 = .ok (.iload_n 1, 1) := by decide +kernel
theorem dX11_commonDivisor_3 : decode cX11_commonDivisor 3 = .ok (.istore_n 3, 1) := by decide +kernel
theorem dX11_commonDivisor_4 : decode cX11_commonDivisor 4 = .ok (.iconst 0, 1) := by decide +kernel
theorem dX11_commonDivisor_5 : decode cX11_commonDivisor 5 = .ok (.istore 4, 2) := by decide +kernel
theorem dX11_commonDivisor_7 : decode cX11_commonDivisor 7 = .ok (.iload 4, 2) := by decide +kernel
theorem dX11_commonDivisor_9 : decode cX11_commonDivisor 9 = .ok (.bipush 100, 2) := by decide +kernel
theorem dX11_commonDivisor_11 : decode cX11_commonDivisor 11 = .ok (.if_icmp .ge 23, 3) := by decide +kernel
theorem dX11_commonDivisor_34 : decode cX11_commonDivisor 34 = .ok (.iload_n 3, 1) := by decide +kernel
theorem dX11_commonDivisor_35 : decode cX11_commonDivisor 35 = .ok (.iconst 1, 1) := by decide +kernel
theorem dX11_commonDivisor_36 : decode cX11_commonDivisor 36 = .ok (.if_icmp .ge 7, 3) := by decide +kernel
theorem dX11_commonDivisor_43 : decode cX11_commonDivisor 43 = .ok (.iload_n 3, 1) := by decide +kernel
theorem dX11_commonDivisor_44 : decode cX11_commonDivisor 44 = .ok (.ireturn, 1) := by decide +kernel
theorem dX11_commonDivisor_39 : decode cX11_commonDivisor 39 = .ok (.iconst 1, 1) := by decide +kernel
theorem dX11_commonDivisor_40 : decode cX11_commonDivisor 40 = .ok (.goto 4, 3) := by decide +kernel
theorem dX11_commonDivisor_14 : decode cX11_commonDivisor 14 = .ok (.iload_n 2, 1) := by decide +kernel
theorem dX11_commonDivisor_15 : decode cX11_commonDivisor 15 = .ok (.ifCond .le 19, 3) := by decide +kernel
theorem dX11_commonDivisor_18 : decode cX11_commonDivisor 18 = .ok (.iload_n 3, 1) := by decide +kernel
theorem dX11_commonDivisor_19 : decode cX11_commonDivisor 19 = .ok (.iload_n 2, 1) := by decide +kernel
theorem dX11_commonDivisor_20 : decode cX11_commonDivisor 20 = .ok (.irem, 1) := by decide +kernel
theorem dX11_commonDivisor_21 : decode cX11_commonDivisor 21 = .ok (.istore 5, 2) := by decide +kernel
theorem dX11_commonDivisor_23 : decode cX11_commonDivisor 23 = .ok (.iload_n 2, 1) := by decide +kernel
theorem dX11_commonDivisor_24 : decode cX11_commonDivisor 24 = .ok (.istore_n 3, 1) := by decide +kernel
theorem dX11_commonDivisor_25 : decode cX11_commonDivisor 25 = .ok (.iload 5, 2) := by decide +kernel
theorem dX11_commonDivisor_27 : decode cX11_commonDivisor 27 = .ok (.istore_n 2, 1) := by decide +kernel
theorem dX11_commonDivisor_28 : decode cX11_commonDivisor 28 = .ok (.iinc 4 1, 3) := by decide +kernel
theorem dX11_commonDivisor_31 : decode cX11_commonDivisor 31 = .ok (.goto (-24), 3) := by decide +kernel
set_option maxHeartbeats 4000000 in
set_option maxRecDepth 100000 in
theorem c_W_commonDivisor (l : Launch) (D : va_G) (cs : Nat → ClassId) (a : Int32) (b : Int32)  : Met l yX11_commonDivisor (Cond.code yX11_commonDivisor cX11_commonDivisor 6 (some .int) :: TB) (RM 0 0 0) (va_Pc [.int a, .int b] (PRR D cs [])) (QP (fun v => ∃ x : Int32, v = .int x ∧ Rg 1 2147483647 x)) 0 0 (fun _ => False) := by
  refine MER (y := yX11_commonDivisor) (cc := cX11_commonDivisor) (maxL := 6) (ret := (some .int)) (d := 0) (D := D) (cs := cs) (ws := []) (av := [.int a, .int b]) (Qc := QP (fun v => ∃ x : Int32, v = .int x ∧ Rg 1 2147483647 x)) (by decide) (Nat.le_of_ble_eq_true rfl) ?_
  intro p e s m below meth c ls H hHe hx hb hr hml hown hts hlocks hP hK hN hl
  obtain ⟨locs, hlc⟩ : ∃ z : List Loc, z = [] := ⟨_, rfl⟩
  rw [← hlc]
  have hown : s.vm.findClass "WrongHole" = some m.cls := hown
  have hT : ∀ w ∈ TB, w.before ([.int a, .int b] : List Value).toArray s = true := fun w h => hts w (List.mem_cons_of_mem _ h)
  have hl : lv_has ls 6 [(0, .int a), (1, .int b)] := hl
  have hP : va_P D vwCl [] H := hP
  refine lv_iload_n hx hb dX11_commonDivisor_0 rfl (lv_at hl 0 rfl) ?_
  refine lv_istore_n (lv' := [(2, .int a), (0, .int a), (1, .int b)]) hx hb dX11_commonDivisor_1 rfl hl (by decide) rfl (fun ls hl => ?_)
  refine lv_iload_n hx hb dX11_commonDivisor_2 rfl (lv_at hl 2 rfl) ?_
  refine lv_istore_n (lv' := [(3, .int b), (2, .int a), (0, .int a), (1, .int b)]) hx hb dX11_commonDivisor_3 rfl hl (by decide) rfl (fun ls hl => ?_)
  refine lv_iconst (v := 0) hx hb dX11_commonDivisor_4 (by decide) ?_
  refine lv_istore (lv' := [(4, .int 0), (3, .int b), (2, .int a), (0, .int a), (1, .int b)]) hx hb dX11_commonDivisor_5 hl (by decide) rfl (fun ls hl => ?_)
  refine w_wh (σ := (Int32) × (Int32) × (Int32)) (fun x9 H locs ls => match x9 with | (v_12, v_13, v_14) => Rg 0 100 v_12 ∧ H = s.heap ∧ locs = [] ∧ va_P D vwCl [] H ∧ lv_has ls 6 [(4, .int v_12), (3, .int v_13), (2, .int v_14), (0, .int a), (1, .int b)]) (fun x9 => match x9 with | (v_12, v_13, v_14) => (100 - Int32.toInt v_12).toNat) 7 ?_ (0, b, a) H locs ls ⟨(Rg.wk (lo2 := 0) (hi2 := 100) (Rg.c (c := 0) (k := 0) rfl) (by decide)), hHe, hlc, hP, lv_sub hl [0, 1, 2, 3, 4] rfl⟩
  rintro ⟨v_12, v_13, v_14⟩ H locs ls ⟨r_155, hHe, hlc, hP, hl⟩ ih_154
  refine lv_iload hx hb dX11_commonDivisor_7 (lv_at hl 0 rfl) ?_
  refine lv_bipush (v := 100) hx hb dX11_commonDivisor_9 (by decide) ?_
  refine w_cut (σ := Unit) (fun _ H locs ls => H = s.heap ∧ locs = [] ∧ va_P D vwCl [] H ∧ lv_has ls 6 [(4, .int v_12), (3, .int v_13), (2, .int v_14), (0, .int a), (1, .int b)]) 34 (fun _ => []) ?_ (fun hj_167 => ?_)
  · rintro _ H locs ls ⟨hHe, hlc, hP, hl⟩
    refine lv_iload_n hx hb dX11_commonDivisor_34 rfl (lv_at hl 1 rfl) ?_
    refine lv_iconst (v := 1) hx hb dX11_commonDivisor_35 (by decide) ?_
    refine lv_icmp_ge (tgt := 43) hx hb dX11_commonDivisor_36 (by decide) (fun c_168 => ?_) (fun c_168 => ?_)
    · have r_169 : Rg 1 2147483647 v_13 := Rg.le_r c_168 (Rg.c (c := 1) (k := 1) rfl) (Rg.top v_13) (by decide)
      refine lv_iload_n hx hb dX11_commonDivisor_43 rfl (lv_at hl 1 rfl) ?_
      exact W.iret (v := v_13) hx hb hr (fun t9 ht9 hW9 => ⟨⟨_, rfl, _, rfl, r_169⟩, ht9.trans hHe⟩) (fun _ h9 => by rw [hlc] at h9; exact absurd h9 List.not_mem_nil) dX11_commonDivisor_44
    · have r_170 : Rg (-2147483648) 0 v_13 := Rg.lt_l (nle_lt c_168) (Rg.top v_13) (Rg.c (c := 1) (k := 1) rfl) (by decide)
      refine lv_iconst (v := 1) hx hb dX11_commonDivisor_39 (by decide) ?_
      refine lv_goto (tgt := 44) hx hb dX11_commonDivisor_40 (by decide) ?_
      exact W.iret (v := 1) hx hb hr (fun t9 ht9 hW9 => ⟨⟨_, rfl, _, rfl, (Rg.wk (lo2 := 1) (hi2 := 2147483647) (Rg.c (c := 1) (k := 1) rfl) (by decide))⟩, ht9.trans hHe⟩) (fun _ h9 => by rw [hlc] at h9; exact absurd h9 List.not_mem_nil) dX11_commonDivisor_44
  · refine lv_icmp_ge (tgt := 34) hx hb dX11_commonDivisor_11 (by decide) (fun c_156 => ?_) (fun c_156 => ?_)
    · have r_157 : Rg 100 100 v_12 := Rg.le_r c_156 (Rg.c (c := 100) (k := 100) rfl) r_155 (by decide)
      exact hj_167 () _ _ _ ⟨hHe, hlc, hP, lv_sub hl [0, 1, 2, 3, 4] rfl⟩
    · have r_158 : Rg 0 99 v_12 := Rg.lt_l (nle_lt c_156) r_155 (Rg.c (c := 100) (k := 100) rfl) (by decide)
      refine lv_iload_n hx hb dX11_commonDivisor_14 rfl (lv_at hl 2 rfl) ?_
      refine lv_if_le (tgt := 34) hx hb dX11_commonDivisor_15 (by decide) (fun c_171 => ?_) (fun c_171 => ?_)
      · have r_172 : Rg (-2147483648) 0 v_14 := Rg.le_l c_171 (Rg.top v_14) (Rg.c (c := 0) (k := 0) rfl) (by decide)
        exact hj_167 () _ _ _ ⟨hHe, hlc, hP, lv_sub hl [0, 1, 2, 3, 4] rfl⟩
      · have r_173 : Rg 1 2147483647 v_14 := Rg.lt_r (nle_lt c_171) (Rg.c (c := 0) (k := 0) rfl) (Rg.top v_14) (by decide)
        refine lv_iload_n hx hb dX11_commonDivisor_18 rfl (lv_at hl 1 rfl) ?_
        refine lv_iload_n hx hb dX11_commonDivisor_19 rfl (lv_at hl 2 rfl) ?_
        refine lv_irem hx hb dX11_commonDivisor_20 (Rg.nz r_173 (by decide)) ?_
        refine lv_topi (fun x_174 e_175 => ?_)
        refine lv_istore (lv' := [(5, .int x_174), (4, .int v_12), (3, .int v_13), (2, .int v_14), (0, .int a), (1, .int b)]) hx hb dX11_commonDivisor_21 hl (by decide) rfl (fun ls hl => ?_)
        refine lv_iload_n hx hb dX11_commonDivisor_23 rfl (lv_at hl 3 rfl) ?_
        refine lv_istore_n (lv' := [(3, .int v_14), (5, .int x_174), (4, .int v_12), (2, .int v_14), (0, .int a), (1, .int b)]) hx hb dX11_commonDivisor_24 rfl hl (by decide) rfl (fun ls hl => ?_)
        refine lv_iload hx hb dX11_commonDivisor_25 (lv_at hl 1 rfl) ?_
        refine lv_istore_n (lv' := [(2, .int x_174), (3, .int v_14), (5, .int x_174), (4, .int v_12), (0, .int a), (1, .int b)]) hx hb dX11_commonDivisor_27 rfl hl (by decide) rfl (fun ls hl => ?_)
        obtain ⟨x_176, e_177⟩ : ∃ z : Int32, z = v_12 + Int32.ofInt 1 := ⟨_, rfl⟩
        have r_178 : Rg 1 100 x_176 := Rg.add e_177 r_158 (Rg.c (c := Int32.ofInt 1) (k := 1) rfl) (by decide)
        refine lv_iinc (v := x_176) (lv' := [(4, .int x_176), (2, .int x_174), (3, .int v_14), (5, .int x_174), (0, .int a), (1, .int b)]) hx hb dX11_commonDivisor_28 hl (k := 3) rfl (e_177.symm) (by decide) rfl (fun ls hl => ?_)
        refine lv_goto (tgt := 7) hx hb dX11_commonDivisor_31 (by decide) ?_
        exact ih_154 (x_176, v_14, x_174) _ _ _ ⟨(Rg.wk (lo2 := 0) (hi2 := 100) r_178 (by decide)), hHe, hlc, hP, lv_sub hl [0, 2, 1, 4, 5] rfl⟩ (ms_up e_177 r_158 (Rg.c (c := Int32.ofInt 1) (k := 1) rfl) (by decide))
theorem dX11_roundsAmong_0 : decode cX11_roundsAmong 0 = .ok (.iconst 0, 1) := by decide +kernel
theorem dX11_roundsAmong_1 : decode cX11_roundsAmong 1 = .ok (.istore_n 2, 1) := by decide +kernel
theorem dX11_roundsAmong_2 : decode cX11_roundsAmong 2 = .ok (.iconst 0, 1) := by decide +kernel
theorem dX11_roundsAmong_3 : decode cX11_roundsAmong 3 = .ok (.istore_n 3, 1) := by decide +kernel
theorem dX11_roundsAmong_4 : decode cX11_roundsAmong 4 = .ok (.iload_n 3, 1) := by decide +kernel
theorem dX11_roundsAmong_5 : decode cX11_roundsAmong 5 = .ok (.iload_n 1, 1) := by decide +kernel
theorem dX11_roundsAmong_6 : decode cX11_roundsAmong 6 = .ok (.if_icmp .ge 88, 3) := by decide +kernel
theorem dX11_roundsAmong_94 : decode cX11_roundsAmong 94 = .ok (.iload_n 2, 1) := by decide +kernel
theorem dX11_roundsAmong_95 : decode cX11_roundsAmong 95 = .ok (.ireturn, 1) := by decide +kernel
theorem dX11_roundsAmong_9 : decode cX11_roundsAmong 9 = .ok (.iload_n 3, 1) := by decide +kernel
theorem dX11_roundsAmong_10 : decode cX11_roundsAmong 10 = .ok (.bipush 10, 2) := by decide +kernel
theorem dX11_roundsAmong_12 : decode cX11_roundsAmong 12 = .ok (.if_icmp .ge 82, 3) := by decide +kernel
theorem dX11_roundsAmong_15 : decode cX11_roundsAmong 15 = .ok (.aload_n 0, 1) := by decide +kernel
theorem dX11_roundsAmong_16 : decode cX11_roundsAmong 16 = .ok (.getfield 32, 3) := by decide +kernel
theorem dX11_roundsAmong_19 : decode cX11_roundsAmong 19 = .ok (.getfield 309, 3) := by decide +kernel
theorem dX11_roundsAmong_22 : decode cX11_roundsAmong 22 = .ok (.iload_n 3, 1) := by decide +kernel
theorem dX11_roundsAmong_23 : decode cX11_roundsAmong 23 = .ok (.iaload, 1) := by decide +kernel
theorem dX11_roundsAmong_24 : decode cX11_roundsAmong 24 = .ok (.istore 4, 2) := by decide +kernel
theorem dX11_roundsAmong_26 : decode cX11_roundsAmong 26 = .ok (.iconst 0, 1) := by decide +kernel
theorem dX11_roundsAmong_27 : decode cX11_roundsAmong 27 = .ok (.istore 5, 2) := by decide +kernel
theorem dX11_roundsAmong_29 : decode cX11_roundsAmong 29 = .ok (.iload 5, 2) := by decide +kernel
theorem dX11_roundsAmong_31 : decode cX11_roundsAmong 31 = .ok (.iload_n 1, 1) := by decide +kernel
theorem dX11_roundsAmong_32 : decode cX11_roundsAmong 32 = .ok (.if_icmp .ge 34, 3) := by decide +kernel
theorem dX11_roundsAmong_66 : decode cX11_roundsAmong 66 = .ok (.iload 4, 2) := by decide +kernel
theorem dX11_roundsAmong_68 : decode cX11_roundsAmong 68 = .ok (.iload_n 3, 1) := by decide +kernel
theorem dX11_roundsAmong_69 : decode cX11_roundsAmong 69 = .ok (.if_icmp .ne 19, 3) := by decide +kernel
theorem dX11_roundsAmong_88 : decode cX11_roundsAmong 88 = .ok (.iinc 3 1, 3) := by decide +kernel
theorem dX11_roundsAmong_91 : decode cX11_roundsAmong 91 = .ok (.goto (-87), 3) := by decide +kernel
theorem dX11_roundsAmong_72 : decode cX11_roundsAmong 72 = .ok (.aload_n 0, 1) := by decide +kernel
theorem dX11_roundsAmong_73 : decode cX11_roundsAmong 73 = .ok (.getfield 32, 3) := by decide +kernel
theorem dX11_roundsAmong_76 : decode cX11_roundsAmong 76 = .ok (.getfield 309, 3) := by decide +kernel
theorem dX11_roundsAmong_79 : decode cX11_roundsAmong 79 = .ok (.iload_n 3, 1) := by decide +kernel
theorem dX11_roundsAmong_80 : decode cX11_roundsAmong 80 = .ok (.iaload, 1) := by decide +kernel
theorem dX11_roundsAmong_81 : decode cX11_roundsAmong 81 = .ok (.iload_n 3, 1) := by decide +kernel
theorem dX11_roundsAmong_82 : decode cX11_roundsAmong 82 = .ok (.if_icmp .eq 6, 3) := by decide +kernel
theorem dX11_roundsAmong_85 : decode cX11_roundsAmong 85 = .ok (.iinc 2 1, 3) := by decide +kernel
theorem dX11_roundsAmong_35 : decode cX11_roundsAmong 35 = .ok (.iload 4, 2) := by decide +kernel
theorem dX11_roundsAmong_37 : decode cX11_roundsAmong 37 = .ok (.iload_n 3, 1) := by decide +kernel
theorem dX11_roundsAmong_38 : decode cX11_roundsAmong 38 = .ok (.if_icmp .le 28, 3) := by decide +kernel
theorem dX11_roundsAmong_41 : decode cX11_roundsAmong 41 = .ok (.iload 4, 2) := by decide +kernel
theorem dX11_roundsAmong_43 : decode cX11_roundsAmong 43 = .ok (.bipush 10, 2) := by decide +kernel
theorem dX11_roundsAmong_45 : decode cX11_roundsAmong 45 = .ok (.if_icmp .ge 21, 3) := by decide +kernel
theorem dX11_roundsAmong_48 : decode cX11_roundsAmong 48 = .ok (.aload_n 0, 1) := by decide +kernel
theorem dX11_roundsAmong_49 : decode cX11_roundsAmong 49 = .ok (.getfield 32, 3) := by decide +kernel
theorem dX11_roundsAmong_52 : decode cX11_roundsAmong 52 = .ok (.getfield 309, 3) := by decide +kernel
theorem dX11_roundsAmong_55 : decode cX11_roundsAmong 55 = .ok (.iload 4, 2) := by decide +kernel
theorem dX11_roundsAmong_57 : decode cX11_roundsAmong 57 = .ok (.iaload, 1) := by decide +kernel
theorem dX11_roundsAmong_58 : decode cX11_roundsAmong 58 = .ok (.istore 4, 2) := by decide +kernel
theorem dX11_roundsAmong_60 : decode cX11_roundsAmong 60 = .ok (.iinc 5 1, 3) := by decide +kernel
theorem dX11_roundsAmong_63 : decode cX11_roundsAmong 63 = .ok (.goto (-34), 3) := by decide +kernel
set_option maxHeartbeats 4000000 in
set_option maxRecDepth 100000 in
theorem c_W_roundsAmong_n (l : Launch) (D : va_G) (cs : Nat → ClassId) (ox : Nat) (ht : Nat) (hq : Nat) (og : Nat) (rc : Int32) (hw : Nat) (om : Nat) (hp : Nat) (ha : Nat) (hf : Nat) (hw0 : Nat) (qh : Option Nat) (qo : Option Nat) (wk : Int32) (wc : Int32) (wx : Int32) (wn : Int32) (wa0 : Nat) (wa1 : Nat) (wa2 : Nat) (wa3 : Nat) (wf3 : Nat → Int32) (a : Int32)  : Met l yX11_roundsAmong (Cond.code yX11_roundsAmong cX11_roundsAmong 6 (some .int) :: TB) (RM 0 0 0) (va_Pc [.ref ox, .int a] (PRR D cs [(ox, .inr (9, [.ref ht, .ref hq, .ref og, .int rc, .ref hw, .ref om, .ref hp, .ref ha, .ref hf, .ref hw0, va_rf qh, va_rf qo])), (hw, .inr (8, [.null, .int wk, .int wc, .int wx, .int wn, .ref wa0, .ref wa1, .ref wa2, .ref wa3])), (wa3, .inl ((cs 0), 10, .inl wf3))])) (QP (fun v => ∃ x : Int32, v = .int x)) 0 0 (fun _ => False) := by
  refine MER (y := yX11_roundsAmong) (cc := cX11_roundsAmong) (maxL := 6) (ret := (some .int)) (d := 0) (D := D) (cs := cs) (ws := [(ox, .inr (9, [.ref ht, .ref hq, .ref og, .int rc, .ref hw, .ref om, .ref hp, .ref ha, .ref hf, .ref hw0, va_rf qh, va_rf qo])), (hw, .inr (8, [.null, .int wk, .int wc, .int wx, .int wn, .ref wa0, .ref wa1, .ref wa2, .ref wa3])), (wa3, .inl ((cs 0), 10, .inl wf3))]) (av := [.ref ox, .int a]) (Qc := QP (fun v => ∃ x : Int32, v = .int x)) (by decide) (Nat.le_of_ble_eq_true rfl) ?_
  intro p e s m below meth c ls H hHe hx hb hr hml hown hts hlocks hP hK hN hl
  obtain ⟨locs, hlc⟩ : ∃ z : List Loc, z = [] := ⟨_, rfl⟩
  rw [← hlc]
  have hown : s.vm.findClass "WrongHole" = some m.cls := hown
  have hT : ∀ w ∈ TB, w.before ([.ref ox, .int a] : List Value).toArray s = true := fun w h => hts w (List.mem_cons_of_mem _ h)
  have hl : lv_has ls 6 [(0, .ref ox), (1, .int a)] := hl
  have hP : va_P D vwCl [(ox, .inr (9, [.ref ht, .ref hq, .ref og, .int rc, .ref hw, .ref om, .ref hp, .ref ha, .ref hf, .ref hw0, va_rf qh, va_rf qo])), (hw, .inr (8, [.null, .int wk, .int wc, .int wx, .int wn, .ref wa0, .ref wa1, .ref wa2, .ref wa3])), (wa3, .inl ((cs 0), 10, .inl wf3))] H := hP
  refine lv_iconst (v := 0) hx hb dX11_roundsAmong_0 (by decide) ?_
  refine lv_istore_n (lv' := [(2, .int 0), (0, .ref ox), (1, .int a)]) hx hb dX11_roundsAmong_1 rfl hl (by decide) rfl (fun ls hl => ?_)
  refine lv_iconst (v := 0) hx hb dX11_roundsAmong_2 (by decide) ?_
  refine lv_istore_n (lv' := [(3, .int 0), (2, .int 0), (0, .ref ox), (1, .int a)]) hx hb dX11_roundsAmong_3 rfl hl (by decide) rfl (fun ls hl => ?_)
  refine w_wh (σ := (Int32) × (Int32)) (fun x9 H locs ls => match x9 with | (v_712, v_713) => Rg 0 10 v_712 ∧ H = s.heap ∧ locs = [] ∧ va_P D vwCl [(ox, .inr (9, [.ref ht, .ref hq, .ref og, .int rc, .ref hw, .ref om, .ref hp, .ref ha, .ref hf, .ref hw0, va_rf qh, va_rf qo])), (hw, .inr (8, [.null, .int wk, .int wc, .int wx, .int wn, .ref wa0, .ref wa1, .ref wa2, .ref wa3])), (wa3, .inl ((cs 0), 10, .inl wf3))] H ∧ lv_has ls 6 [(3, .int v_712), (2, .int v_713), (0, .ref ox), (1, .int a)]) (fun x9 => match x9 with | (v_712, v_713) => (10 - Int32.toInt v_712).toNat) 4 ?_ (0, 0) H locs ls ⟨(Rg.wk (lo2 := 0) (hi2 := 10) (Rg.c (c := 0) (k := 0) rfl) (by decide)), hHe, hlc, hP, lv_sub hl [0, 1, 2, 3] rfl⟩
  rintro ⟨v_712, v_713⟩ H locs ls ⟨r_11563, hHe, hlc, hP, hl⟩ ih_11562
  refine lv_iload_n hx hb dX11_roundsAmong_4 rfl (lv_at hl 0 rfl) ?_
  refine lv_iload_n hx hb dX11_roundsAmong_5 rfl (lv_at hl 3 rfl) ?_
  refine lv_icmp_ge (tgt := 94) hx hb dX11_roundsAmong_6 (by decide) (fun c_11564 => ?_) (fun c_11564 => ?_)
  · have r_11565 : Rg (-2147483648) 10 a := Rg.le_l c_11564 (Rg.top a) r_11563 (by decide)
    refine lv_iload_n hx hb dX11_roundsAmong_94 rfl (lv_at hl 1 rfl) ?_
    exact W.iret (v := v_713) hx hb hr (fun t9 ht9 hW9 => ⟨⟨_, rfl, _, rfl⟩, ht9.trans hHe⟩) (fun _ h9 => by rw [hlc] at h9; exact absurd h9 List.not_mem_nil) dX11_roundsAmong_95
  · have r_11566 : Rg 1 2147483647 a := Rg.lt_r (nle_lt c_11564) r_11563 (Rg.top a) (by decide)
    refine lv_iload_n hx hb dX11_roundsAmong_9 rfl (lv_at hl 0 rfl) ?_
    refine lv_bipush (v := 10) hx hb dX11_roundsAmong_10 (by decide) ?_
    refine lv_icmp_ge (tgt := 94) hx hb dX11_roundsAmong_12 (by decide) (fun c_11993 => ?_) (fun c_11993 => ?_)
    · have r_11994 : Rg 10 10 v_712 := Rg.le_r c_11993 (Rg.c (c := 10) (k := 10) rfl) r_11563 (by decide)
      refine lv_iload_n hx hb dX11_roundsAmong_94 rfl (lv_at hl 1 rfl) ?_
      exact W.iret (v := v_713) hx hb hr (fun t9 ht9 hW9 => ⟨⟨_, rfl, _, rfl⟩, ht9.trans hHe⟩) (fun _ h9 => by rw [hlc] at h9; exact absurd h9 List.not_mem_nil) dX11_roundsAmong_95
    · have r_11995 : Rg 0 9 v_712 := Rg.lt_l (nle_lt c_11993) r_11563 (Rg.c (c := 10) (k := 10) rfl) (by decide)
      refine lv_aload_n hx hb dX11_roundsAmong_15 rfl (lv_at hl 2 rfl) ?_
      refine va_get (D := D) (ci := 9) (v := .ref hw) (C := "WrongHole") (T := TX11) (N := 12) hx hb hts (iq_RX11 _) hown hK hP 0 rfl rfl 4 (by decide) (hT _ qq_1_206) (fun _ h9 => h9) rfl dX11_roundsAmong_16 ?_
      refine va_getN (D := D) (ci := 8) (v := .ref wa3) (C := "WrongHole$Worn") (T := TX10) (N := 9) hx hb hts (iq_RX10 _) hown hK hP 1 rfl rfl 8 (by decide) (NN.f hN nq_1_115) (fun _ h9 => h9) rfl dX11_roundsAmong_19 ?_
      refine lv_iload_n hx hb dX11_roundsAmong_22 rfl (lv_at hl 0 rfl) ?_
      have hi_12419 : vp_in v_712 10 := Rg.in r_11995 (by decide)
      refine va_iald hx hb hK hP 2 0 rfl rfl hi_12419 dX11_roundsAmong_23 ?_
      refine lv_topi (fun x_12420 e_12421 => ?_)
      refine lv_istore (lv' := [(4, .int x_12420), (3, .int v_712), (2, .int v_713), (0, .ref ox), (1, .int a)]) hx hb dX11_roundsAmong_24 hl (by decide) rfl (fun ls hl => ?_)
      refine lv_iconst (v := 0) hx hb dX11_roundsAmong_26 (by decide) ?_
      refine lv_istore (lv' := [(5, .int 0), (4, .int x_12420), (3, .int v_712), (2, .int v_713), (0, .ref ox), (1, .int a)]) hx hb dX11_roundsAmong_27 hl (by decide) rfl (fun ls hl => ?_)
      refine w_wh (σ := (Int32) × (Int32)) (fun x9 H locs ls => match x9 with | (v_12454, v_12455) => Rg 0 2147483647 v_12454 ∧ H = s.heap ∧ locs = [] ∧ va_P D vwCl [(ox, .inr (9, [.ref ht, .ref hq, .ref og, .int rc, .ref hw, .ref om, .ref hp, .ref ha, .ref hf, .ref hw0, va_rf qh, va_rf qo])), (hw, .inr (8, [.null, .int wk, .int wc, .int wx, .int wn, .ref wa0, .ref wa1, .ref wa2, .ref wa3])), (wa3, .inl ((cs 0), 10, .inl wf3))] H ∧ lv_has ls 6 [(5, .int v_12454), (4, .int v_12455), (3, .int v_712), (2, .int v_713), (0, .ref ox), (1, .int a)]) (fun x9 => match x9 with | (v_12454, v_12455) => (2147483647 - Int32.toInt v_12454).toNat) 29 ?_ (0, x_12420) H locs ls ⟨(Rg.wk (lo2 := 0) (hi2 := 2147483647) (Rg.c (c := 0) (k := 0) rfl) (by decide)), hHe, hlc, hP, lv_sub hl [0, 1, 2, 3, 4, 5] rfl⟩
      rintro ⟨v_12454, v_12455⟩ H locs ls ⟨r_12801, hHe, hlc, hP, hl⟩ ih_12800
      refine lv_iload hx hb dX11_roundsAmong_29 (lv_at hl 0 rfl) ?_
      refine lv_iload_n hx hb dX11_roundsAmong_31 rfl (lv_at hl 5 rfl) ?_
      refine w_cut (σ := Unit) (fun _ H locs ls => H = s.heap ∧ locs = [] ∧ va_P D vwCl [(ox, .inr (9, [.ref ht, .ref hq, .ref og, .int rc, .ref hw, .ref om, .ref hp, .ref ha, .ref hf, .ref hw0, va_rf qh, va_rf qo])), (hw, .inr (8, [.null, .int wk, .int wc, .int wx, .int wn, .ref wa0, .ref wa1, .ref wa2, .ref wa3])), (wa3, .inl ((cs 0), 10, .inl wf3))] H ∧ lv_has ls 6 [(5, .int v_12454), (4, .int v_12455), (3, .int v_712), (2, .int v_713), (0, .ref ox), (1, .int a)]) 66 (fun _ => []) ?_ (fun hj_12816 => ?_)
      · rintro _ H locs ls ⟨hHe, hlc, hP, hl⟩
        refine lv_iload hx hb dX11_roundsAmong_66 (lv_at hl 1 rfl) ?_
        refine lv_iload_n hx hb dX11_roundsAmong_68 rfl (lv_at hl 2 rfl) ?_
        refine w_cut (σ := (Int32)) (fun (v_12825 : Int32) H locs ls => H = s.heap ∧ locs = [] ∧ va_P D vwCl [(ox, .inr (9, [.ref ht, .ref hq, .ref og, .int rc, .ref hw, .ref om, .ref hp, .ref ha, .ref hf, .ref hw0, va_rf qh, va_rf qo])), (hw, .inr (8, [.null, .int wk, .int wc, .int wx, .int wn, .ref wa0, .ref wa1, .ref wa2, .ref wa3])), (wa3, .inl ((cs 0), 10, .inl wf3))] H ∧ lv_has ls 6 [(5, .int v_12454), (4, .int v_12455), (3, .int v_712), (2, .int v_12825), (0, .ref ox), (1, .int a)]) 88 (fun (v_12825 : Int32) => []) ?_ (fun hj_12826 => ?_)
        · rintro v_12825 H locs ls ⟨hHe, hlc, hP, hl⟩
          obtain ⟨x_12827, e_12828⟩ : ∃ z : Int32, z = v_712 + Int32.ofInt 1 := ⟨_, rfl⟩
          have r_12829 : Rg 1 10 x_12827 := Rg.add e_12828 r_11995 (Rg.c (c := Int32.ofInt 1) (k := 1) rfl) (by decide)
          refine lv_iinc (v := x_12827) (lv' := [(3, .int x_12827), (5, .int v_12454), (4, .int v_12455), (2, .int v_12825), (0, .ref ox), (1, .int a)]) hx hb dX11_roundsAmong_88 hl (k := 2) rfl (e_12828.symm) (by decide) rfl (fun ls hl => ?_)
          refine lv_goto (tgt := 4) hx hb dX11_roundsAmong_91 (by decide) ?_
          exact ih_11562 (x_12827, v_12825) _ _ _ ⟨(Rg.wk (lo2 := 0) (hi2 := 10) r_12829 (by decide)), hHe, hlc, hP, lv_sub hl [0, 3, 4, 5] rfl⟩ (ms_up e_12828 r_11995 (Rg.c (c := Int32.ofInt 1) (k := 1) rfl) (by decide))
        · refine lv_icmp_ne (tgt := 88) hx hb dX11_roundsAmong_69 (by decide) (fun c_12817 => ?_) (fun c_12817 => ?_)
          · exact hj_12826 v_713 _ _ _ ⟨hHe, hlc, hP, lv_sub hl [0, 1, 2, 3, 4, 5] rfl⟩
          · have r_12818 : Rg 0 9 v_12455 := Rg.eq_l c_12817 (Rg.top v_12455) r_11995 (by decide)
            refine lv_aload_n hx hb dX11_roundsAmong_72 rfl (lv_at hl 4 rfl) ?_
            refine va_get (D := D) (ci := 9) (v := .ref hw) (C := "WrongHole") (T := TX11) (N := 12) hx hb hts (iq_RX11 _) hown hK hP 0 rfl rfl 4 (by decide) (hT _ qq_1_206) (fun _ h9 => h9) rfl dX11_roundsAmong_73 ?_
            refine va_getN (D := D) (ci := 8) (v := .ref wa3) (C := "WrongHole$Worn") (T := TX10) (N := 9) hx hb hts (iq_RX10 _) hown hK hP 1 rfl rfl 8 (by decide) (NN.f hN nq_1_115) (fun _ h9 => h9) rfl dX11_roundsAmong_76 ?_
            refine lv_iload_n hx hb dX11_roundsAmong_79 rfl (lv_at hl 2 rfl) ?_
            have hi_12830 : vp_in v_712 10 := Rg.in r_11995 (by decide)
            refine va_iald hx hb hK hP 2 0 rfl rfl hi_12830 dX11_roundsAmong_80 ?_
            refine lv_topi (fun x_12831 e_12832 => ?_)
            refine lv_iload_n hx hb dX11_roundsAmong_81 rfl (lv_at hl 2 rfl) ?_
            refine lv_icmp_eq (tgt := 88) hx hb dX11_roundsAmong_82 (by decide) (fun c_12833 => ?_) (fun c_12833 => ?_)
            · have r_12834 : Rg 0 9 x_12831 := Rg.eq_l c_12833 (Rg.top x_12831) r_11995 (by decide)
              exact hj_12826 v_713 _ _ _ ⟨hHe, hlc, hP, lv_sub hl [0, 1, 2, 3, 4, 5] rfl⟩
            · obtain ⟨x_12835, e_12836⟩ : ∃ z : Int32, z = v_713 + Int32.ofInt 1 := ⟨_, rfl⟩
              refine lv_iinc (v := x_12835) (lv' := [(2, .int x_12835), (5, .int v_12454), (4, .int v_12455), (3, .int v_712), (0, .ref ox), (1, .int a)]) hx hb dX11_roundsAmong_85 hl (k := 3) rfl (e_12836.symm) (by decide) rfl (fun ls hl => ?_)
              exact hj_12826 x_12835 _ _ _ ⟨hHe, hlc, hP, lv_sub hl [1, 2, 3, 0, 4, 5] rfl⟩
      · refine lv_icmp_ge (tgt := 66) hx hb dX11_roundsAmong_32 (by decide) (fun c_12802 => ?_) (fun c_12802 => ?_)
        · have r_12803 : Rg 1 2147483647 v_12454 := Rg.le_r c_12802 r_11566 r_12801 (by decide)
          exact hj_12816 () _ _ _ ⟨hHe, hlc, hP, lv_sub hl [0, 1, 2, 3, 4, 5] rfl⟩
        · have r_12804 : Rg 0 2147483646 v_12454 := Rg.lt_l (nle_lt c_12802) r_12801 r_11566 (by decide)
          refine lv_iload hx hb dX11_roundsAmong_35 (lv_at hl 1 rfl) ?_
          refine lv_iload_n hx hb dX11_roundsAmong_37 rfl (lv_at hl 2 rfl) ?_
          refine lv_icmp_le (tgt := 66) hx hb dX11_roundsAmong_38 (by decide) (fun c_12837 => ?_) (fun c_12837 => ?_)
          · have r_12838 : Rg (-2147483648) 9 v_12455 := Rg.le_l c_12837 (Rg.top v_12455) r_11995 (by decide)
            exact hj_12816 () _ _ _ ⟨hHe, hlc, hP, lv_sub hl [0, 1, 2, 3, 4, 5] rfl⟩
          · have r_12839 : Rg 1 2147483647 v_12455 := Rg.lt_r (nle_lt c_12837) r_11995 (Rg.top v_12455) (by decide)
            refine lv_iload hx hb dX11_roundsAmong_41 (lv_at hl 1 rfl) ?_
            refine lv_bipush (v := 10) hx hb dX11_roundsAmong_43 (by decide) ?_
            refine lv_icmp_ge (tgt := 66) hx hb dX11_roundsAmong_45 (by decide) (fun c_12840 => ?_) (fun c_12840 => ?_)
            · have r_12841 : Rg 10 2147483647 v_12455 := Rg.le_r c_12840 (Rg.c (c := 10) (k := 10) rfl) r_12839 (by decide)
              exact hj_12816 () _ _ _ ⟨hHe, hlc, hP, lv_sub hl [0, 1, 2, 3, 4, 5] rfl⟩
            · have r_12842 : Rg 1 9 v_12455 := Rg.lt_l (nle_lt c_12840) r_12839 (Rg.c (c := 10) (k := 10) rfl) (by decide)
              refine lv_aload_n hx hb dX11_roundsAmong_48 rfl (lv_at hl 4 rfl) ?_
              refine va_get (D := D) (ci := 9) (v := .ref hw) (C := "WrongHole") (T := TX11) (N := 12) hx hb hts (iq_RX11 _) hown hK hP 0 rfl rfl 4 (by decide) (hT _ qq_1_206) (fun _ h9 => h9) rfl dX11_roundsAmong_49 ?_
              refine va_getN (D := D) (ci := 8) (v := .ref wa3) (C := "WrongHole$Worn") (T := TX10) (N := 9) hx hb hts (iq_RX10 _) hown hK hP 1 rfl rfl 8 (by decide) (NN.f hN nq_1_115) (fun _ h9 => h9) rfl dX11_roundsAmong_52 ?_
              refine lv_iload hx hb dX11_roundsAmong_55 (lv_at hl 1 rfl) ?_
              have hi_12843 : vp_in v_12455 10 := Rg.in r_12842 (by decide)
              refine va_iald hx hb hK hP 2 0 rfl rfl hi_12843 dX11_roundsAmong_57 ?_
              refine lv_topi (fun x_12844 e_12845 => ?_)
              refine lv_istore (lv' := [(4, .int x_12844), (5, .int v_12454), (3, .int v_712), (2, .int v_713), (0, .ref ox), (1, .int a)]) hx hb dX11_roundsAmong_58 hl (by decide) rfl (fun ls hl => ?_)
              obtain ⟨x_12846, e_12847⟩ : ∃ z : Int32, z = v_12454 + Int32.ofInt 1 := ⟨_, rfl⟩
              have r_12848 : Rg 1 2147483647 x_12846 := Rg.add e_12847 r_12804 (Rg.c (c := Int32.ofInt 1) (k := 1) rfl) (by decide)
              refine lv_iinc (v := x_12846) (lv' := [(5, .int x_12846), (4, .int x_12844), (3, .int v_712), (2, .int v_713), (0, .ref ox), (1, .int a)]) hx hb dX11_roundsAmong_60 hl (k := 1) rfl (e_12847.symm) (by decide) rfl (fun ls hl => ?_)
              refine lv_goto (tgt := 29) hx hb dX11_roundsAmong_63 (by decide) ?_
              exact ih_12800 (x_12846, x_12844) _ _ _ ⟨(Rg.wk (lo2 := 0) (hi2 := 2147483647) r_12848 (by decide)), hHe, hlc, hP, lv_sub hl [0, 1, 2, 3, 4, 5] rfl⟩ (ms_up e_12847 r_12804 (Rg.c (c := Int32.ofInt 1) (k := 1) rfl) (by decide))
set_option maxHeartbeats 4000000 in
set_option maxRecDepth 100000 in
theorem c_W_roundsAmong_r (l : Launch) (D : va_G) (cs : Nat → ClassId) (ox : Nat) (ht : Nat) (hq : Nat) (og : Nat) (rc : Int32) (hw : Nat) (om : Nat) (hp : Nat) (ha : Nat) (hf : Nat) (hw0 : Nat) (qh : Option Nat) (qo : Option Nat) (wk : Int32) (wc : Int32) (wx : Int32) (wn : Int32) (wa0 : Nat) (wa1 : Nat) (wa2 : Nat) (wa3 : Nat) (wf3 : Nat → Int32) (hl0 : Nat) (lb : Int32) (lh : Int32) (lg : Int32) (lw : Int32) (lv : Int32) (lbs : Int32) (lti : Int32) (lts : Int32) (le : Int32) (lk : Int32) (la : Int32) (l0 : Nat) (l1 : Nat) (l2 : Nat) (l3 : Nat) (l4 : Nat) (l5 : Nat) (l6 : Nat) (l7 : Nat) (a : Int32) (r_lb : Rg 0 8 lb) (r_lh : Rg 0 8 lh) (r_le : Rg 0 6 le) : Met l yX11_roundsAmong (Cond.code yX11_roundsAmong cX11_roundsAmong 6 (some .int) :: TB) (RM 0 0 0) (va_Pc [.ref ox, .int a] (PRR D cs [(ox, .inr (9, [.ref ht, .ref hq, .ref og, .int rc, .ref hw, .ref om, .ref hp, .ref ha, .ref hf, .ref hw0, va_rf qh, va_rf qo])), (hw, .inr (8, [.ref hl0, .int wk, .int wc, .int wx, .int wn, .ref wa0, .ref wa1, .ref wa2, .ref wa3])), (wa3, .inl ((cs 0), 10, .inl wf3)), (hl0, .inr (2, [.int lb, .int lh, .int lg, .int lw, .int lv, .int lbs, .int lti, .int lts, .int le, .int lk, .int la, .ref l0, .ref l1, .ref l2, .ref l3, .ref l4, .ref l5, .ref l6, .ref l7]))])) (QP (fun v => ∃ x : Int32, v = .int x)) 0 0 (fun _ => False) := by
  refine MER (y := yX11_roundsAmong) (cc := cX11_roundsAmong) (maxL := 6) (ret := (some .int)) (d := 0) (D := D) (cs := cs) (ws := [(ox, .inr (9, [.ref ht, .ref hq, .ref og, .int rc, .ref hw, .ref om, .ref hp, .ref ha, .ref hf, .ref hw0, va_rf qh, va_rf qo])), (hw, .inr (8, [.ref hl0, .int wk, .int wc, .int wx, .int wn, .ref wa0, .ref wa1, .ref wa2, .ref wa3])), (wa3, .inl ((cs 0), 10, .inl wf3)), (hl0, .inr (2, [.int lb, .int lh, .int lg, .int lw, .int lv, .int lbs, .int lti, .int lts, .int le, .int lk, .int la, .ref l0, .ref l1, .ref l2, .ref l3, .ref l4, .ref l5, .ref l6, .ref l7]))]) (av := [.ref ox, .int a]) (Qc := QP (fun v => ∃ x : Int32, v = .int x)) (by decide) (Nat.le_of_ble_eq_true rfl) ?_
  intro p e s m below meth c ls H hHe hx hb hr hml hown hts hlocks hP hK hN hl
  obtain ⟨locs, hlc⟩ : ∃ z : List Loc, z = [] := ⟨_, rfl⟩
  rw [← hlc]
  have hown : s.vm.findClass "WrongHole" = some m.cls := hown
  have hT : ∀ w ∈ TB, w.before ([.ref ox, .int a] : List Value).toArray s = true := fun w h => hts w (List.mem_cons_of_mem _ h)
  have hl : lv_has ls 6 [(0, .ref ox), (1, .int a)] := hl
  have hP : va_P D vwCl [(ox, .inr (9, [.ref ht, .ref hq, .ref og, .int rc, .ref hw, .ref om, .ref hp, .ref ha, .ref hf, .ref hw0, va_rf qh, va_rf qo])), (hw, .inr (8, [.ref hl0, .int wk, .int wc, .int wx, .int wn, .ref wa0, .ref wa1, .ref wa2, .ref wa3])), (wa3, .inl ((cs 0), 10, .inl wf3)), (hl0, .inr (2, [.int lb, .int lh, .int lg, .int lw, .int lv, .int lbs, .int lti, .int lts, .int le, .int lk, .int la, .ref l0, .ref l1, .ref l2, .ref l3, .ref l4, .ref l5, .ref l6, .ref l7]))] H := hP
  refine lv_iconst (v := 0) hx hb dX11_roundsAmong_0 (by decide) ?_
  refine lv_istore_n (lv' := [(2, .int 0), (0, .ref ox), (1, .int a)]) hx hb dX11_roundsAmong_1 rfl hl (by decide) rfl (fun ls hl => ?_)
  refine lv_iconst (v := 0) hx hb dX11_roundsAmong_2 (by decide) ?_
  refine lv_istore_n (lv' := [(3, .int 0), (2, .int 0), (0, .ref ox), (1, .int a)]) hx hb dX11_roundsAmong_3 rfl hl (by decide) rfl (fun ls hl => ?_)
  refine w_wh (σ := (Int32) × (Int32)) (fun x9 H locs ls => match x9 with | (v_712, v_713) => Rg 0 10 v_712 ∧ H = s.heap ∧ locs = [] ∧ va_P D vwCl [(ox, .inr (9, [.ref ht, .ref hq, .ref og, .int rc, .ref hw, .ref om, .ref hp, .ref ha, .ref hf, .ref hw0, va_rf qh, va_rf qo])), (hw, .inr (8, [.ref hl0, .int wk, .int wc, .int wx, .int wn, .ref wa0, .ref wa1, .ref wa2, .ref wa3])), (wa3, .inl ((cs 0), 10, .inl wf3)), (hl0, .inr (2, [.int lb, .int lh, .int lg, .int lw, .int lv, .int lbs, .int lti, .int lts, .int le, .int lk, .int la, .ref l0, .ref l1, .ref l2, .ref l3, .ref l4, .ref l5, .ref l6, .ref l7]))] H ∧ lv_has ls 6 [(3, .int v_712), (2, .int v_713), (0, .ref ox), (1, .int a)]) (fun x9 => match x9 with | (v_712, v_713) => (10 - Int32.toInt v_712).toNat) 4 ?_ (0, 0) H locs ls ⟨(Rg.wk (lo2 := 0) (hi2 := 10) (Rg.c (c := 0) (k := 0) rfl) (by decide)), hHe, hlc, hP, lv_sub hl [0, 1, 2, 3] rfl⟩
  rintro ⟨v_712, v_713⟩ H locs ls ⟨r_11563, hHe, hlc, hP, hl⟩ ih_11562
  refine lv_iload_n hx hb dX11_roundsAmong_4 rfl (lv_at hl 0 rfl) ?_
  refine lv_iload_n hx hb dX11_roundsAmong_5 rfl (lv_at hl 3 rfl) ?_
  refine lv_icmp_ge (tgt := 94) hx hb dX11_roundsAmong_6 (by decide) (fun c_11564 => ?_) (fun c_11564 => ?_)
  · have r_11565 : Rg (-2147483648) 10 a := Rg.le_l c_11564 (Rg.top a) r_11563 (by decide)
    refine lv_iload_n hx hb dX11_roundsAmong_94 rfl (lv_at hl 1 rfl) ?_
    exact W.iret (v := v_713) hx hb hr (fun t9 ht9 hW9 => ⟨⟨_, rfl, _, rfl⟩, ht9.trans hHe⟩) (fun _ h9 => by rw [hlc] at h9; exact absurd h9 List.not_mem_nil) dX11_roundsAmong_95
  · have r_11566 : Rg 1 2147483647 a := Rg.lt_r (nle_lt c_11564) r_11563 (Rg.top a) (by decide)
    refine lv_iload_n hx hb dX11_roundsAmong_9 rfl (lv_at hl 0 rfl) ?_
    refine lv_bipush (v := 10) hx hb dX11_roundsAmong_10 (by decide) ?_
    refine lv_icmp_ge (tgt := 94) hx hb dX11_roundsAmong_12 (by decide) (fun c_11993 => ?_) (fun c_11993 => ?_)
    · have r_11994 : Rg 10 10 v_712 := Rg.le_r c_11993 (Rg.c (c := 10) (k := 10) rfl) r_11563 (by decide)
      refine lv_iload_n hx hb dX11_roundsAmong_94 rfl (lv_at hl 1 rfl) ?_
      exact W.iret (v := v_713) hx hb hr (fun t9 ht9 hW9 => ⟨⟨_, rfl, _, rfl⟩, ht9.trans hHe⟩) (fun _ h9 => by rw [hlc] at h9; exact absurd h9 List.not_mem_nil) dX11_roundsAmong_95
    · have r_11995 : Rg 0 9 v_712 := Rg.lt_l (nle_lt c_11993) r_11563 (Rg.c (c := 10) (k := 10) rfl) (by decide)
      refine lv_aload_n hx hb dX11_roundsAmong_15 rfl (lv_at hl 2 rfl) ?_
      refine va_get (D := D) (ci := 9) (v := .ref hw) (C := "WrongHole") (T := TX11) (N := 12) hx hb hts (iq_RX11 _) hown hK hP 0 rfl rfl 4 (by decide) (hT _ qq_1_206) (fun _ h9 => h9) rfl dX11_roundsAmong_16 ?_
      refine va_getN (D := D) (ci := 8) (v := .ref wa3) (C := "WrongHole$Worn") (T := TX10) (N := 9) hx hb hts (iq_RX10 _) hown hK hP 1 rfl rfl 8 (by decide) (NN.f hN nq_1_115) (fun _ h9 => h9) rfl dX11_roundsAmong_19 ?_
      refine lv_iload_n hx hb dX11_roundsAmong_22 rfl (lv_at hl 0 rfl) ?_
      have hi_12419 : vp_in v_712 10 := Rg.in r_11995 (by decide)
      refine va_iald hx hb hK hP 2 0 rfl rfl hi_12419 dX11_roundsAmong_23 ?_
      refine lv_topi (fun x_12420 e_12421 => ?_)
      refine lv_istore (lv' := [(4, .int x_12420), (3, .int v_712), (2, .int v_713), (0, .ref ox), (1, .int a)]) hx hb dX11_roundsAmong_24 hl (by decide) rfl (fun ls hl => ?_)
      refine lv_iconst (v := 0) hx hb dX11_roundsAmong_26 (by decide) ?_
      refine lv_istore (lv' := [(5, .int 0), (4, .int x_12420), (3, .int v_712), (2, .int v_713), (0, .ref ox), (1, .int a)]) hx hb dX11_roundsAmong_27 hl (by decide) rfl (fun ls hl => ?_)
      refine w_wh (σ := (Int32) × (Int32)) (fun x9 H locs ls => match x9 with | (v_12454, v_12455) => Rg 0 2147483647 v_12454 ∧ H = s.heap ∧ locs = [] ∧ va_P D vwCl [(ox, .inr (9, [.ref ht, .ref hq, .ref og, .int rc, .ref hw, .ref om, .ref hp, .ref ha, .ref hf, .ref hw0, va_rf qh, va_rf qo])), (hw, .inr (8, [.ref hl0, .int wk, .int wc, .int wx, .int wn, .ref wa0, .ref wa1, .ref wa2, .ref wa3])), (wa3, .inl ((cs 0), 10, .inl wf3)), (hl0, .inr (2, [.int lb, .int lh, .int lg, .int lw, .int lv, .int lbs, .int lti, .int lts, .int le, .int lk, .int la, .ref l0, .ref l1, .ref l2, .ref l3, .ref l4, .ref l5, .ref l6, .ref l7]))] H ∧ lv_has ls 6 [(5, .int v_12454), (4, .int v_12455), (3, .int v_712), (2, .int v_713), (0, .ref ox), (1, .int a)]) (fun x9 => match x9 with | (v_12454, v_12455) => (2147483647 - Int32.toInt v_12454).toNat) 29 ?_ (0, x_12420) H locs ls ⟨(Rg.wk (lo2 := 0) (hi2 := 2147483647) (Rg.c (c := 0) (k := 0) rfl) (by decide)), hHe, hlc, hP, lv_sub hl [0, 1, 2, 3, 4, 5] rfl⟩
      rintro ⟨v_12454, v_12455⟩ H locs ls ⟨r_12801, hHe, hlc, hP, hl⟩ ih_12800
      refine lv_iload hx hb dX11_roundsAmong_29 (lv_at hl 0 rfl) ?_
      refine lv_iload_n hx hb dX11_roundsAmong_31 rfl (lv_at hl 5 rfl) ?_
      refine w_cut (σ := Unit) (fun _ H locs ls => H = s.heap ∧ locs = [] ∧ va_P D vwCl [(ox, .inr (9, [.ref ht, .ref hq, .ref og, .int rc, .ref hw, .ref om, .ref hp, .ref ha, .ref hf, .ref hw0, va_rf qh, va_rf qo])), (hw, .inr (8, [.ref hl0, .int wk, .int wc, .int wx, .int wn, .ref wa0, .ref wa1, .ref wa2, .ref wa3])), (wa3, .inl ((cs 0), 10, .inl wf3)), (hl0, .inr (2, [.int lb, .int lh, .int lg, .int lw, .int lv, .int lbs, .int lti, .int lts, .int le, .int lk, .int la, .ref l0, .ref l1, .ref l2, .ref l3, .ref l4, .ref l5, .ref l6, .ref l7]))] H ∧ lv_has ls 6 [(5, .int v_12454), (4, .int v_12455), (3, .int v_712), (2, .int v_713), (0, .ref ox), (1, .int a)]) 66 (fun _ => []) ?_ (fun hj_12816 => ?_)
      · rintro _ H locs ls ⟨hHe, hlc, hP, hl⟩
        refine lv_iload hx hb dX11_roundsAmong_66 (lv_at hl 1 rfl) ?_
        refine lv_iload_n hx hb dX11_roundsAmong_68 rfl (lv_at hl 2 rfl) ?_
        refine w_cut (σ := (Int32)) (fun (v_12825 : Int32) H locs ls => H = s.heap ∧ locs = [] ∧ va_P D vwCl [(ox, .inr (9, [.ref ht, .ref hq, .ref og, .int rc, .ref hw, .ref om, .ref hp, .ref ha, .ref hf, .ref hw0, va_rf qh, va_rf qo])), (hw, .inr (8, [.ref hl0, .int wk, .int wc, .int wx, .int wn, .ref wa0, .ref wa1, .ref wa2, .ref wa3])), (wa3, .inl ((cs 0), 10, .inl wf3)), (hl0, .inr (2, [.int lb, .int lh, .int lg, .int lw, .int lv, .int lbs, .int lti, .int lts, .int le, .int lk, .int la, .ref l0, .ref l1, .ref l2, .ref l3, .ref l4, .ref l5, .ref l6, .ref l7]))] H ∧ lv_has ls 6 [(5, .int v_12454), (4, .int v_12455), (3, .int v_712), (2, .int v_12825), (0, .ref ox), (1, .int a)]) 88 (fun (v_12825 : Int32) => []) ?_ (fun hj_12826 => ?_)
        · rintro v_12825 H locs ls ⟨hHe, hlc, hP, hl⟩
          obtain ⟨x_12827, e_12828⟩ : ∃ z : Int32, z = v_712 + Int32.ofInt 1 := ⟨_, rfl⟩
          have r_12829 : Rg 1 10 x_12827 := Rg.add e_12828 r_11995 (Rg.c (c := Int32.ofInt 1) (k := 1) rfl) (by decide)
          refine lv_iinc (v := x_12827) (lv' := [(3, .int x_12827), (5, .int v_12454), (4, .int v_12455), (2, .int v_12825), (0, .ref ox), (1, .int a)]) hx hb dX11_roundsAmong_88 hl (k := 2) rfl (e_12828.symm) (by decide) rfl (fun ls hl => ?_)
          refine lv_goto (tgt := 4) hx hb dX11_roundsAmong_91 (by decide) ?_
          exact ih_11562 (x_12827, v_12825) _ _ _ ⟨(Rg.wk (lo2 := 0) (hi2 := 10) r_12829 (by decide)), hHe, hlc, hP, lv_sub hl [0, 3, 4, 5] rfl⟩ (ms_up e_12828 r_11995 (Rg.c (c := Int32.ofInt 1) (k := 1) rfl) (by decide))
        · refine lv_icmp_ne (tgt := 88) hx hb dX11_roundsAmong_69 (by decide) (fun c_12817 => ?_) (fun c_12817 => ?_)
          · exact hj_12826 v_713 _ _ _ ⟨hHe, hlc, hP, lv_sub hl [0, 1, 2, 3, 4, 5] rfl⟩
          · have r_12818 : Rg 0 9 v_12455 := Rg.eq_l c_12817 (Rg.top v_12455) r_11995 (by decide)
            refine lv_aload_n hx hb dX11_roundsAmong_72 rfl (lv_at hl 4 rfl) ?_
            refine va_get (D := D) (ci := 9) (v := .ref hw) (C := "WrongHole") (T := TX11) (N := 12) hx hb hts (iq_RX11 _) hown hK hP 0 rfl rfl 4 (by decide) (hT _ qq_1_206) (fun _ h9 => h9) rfl dX11_roundsAmong_73 ?_
            refine va_getN (D := D) (ci := 8) (v := .ref wa3) (C := "WrongHole$Worn") (T := TX10) (N := 9) hx hb hts (iq_RX10 _) hown hK hP 1 rfl rfl 8 (by decide) (NN.f hN nq_1_115) (fun _ h9 => h9) rfl dX11_roundsAmong_76 ?_
            refine lv_iload_n hx hb dX11_roundsAmong_79 rfl (lv_at hl 2 rfl) ?_
            have hi_12830 : vp_in v_712 10 := Rg.in r_11995 (by decide)
            refine va_iald hx hb hK hP 2 0 rfl rfl hi_12830 dX11_roundsAmong_80 ?_
            refine lv_topi (fun x_12831 e_12832 => ?_)
            refine lv_iload_n hx hb dX11_roundsAmong_81 rfl (lv_at hl 2 rfl) ?_
            refine lv_icmp_eq (tgt := 88) hx hb dX11_roundsAmong_82 (by decide) (fun c_12833 => ?_) (fun c_12833 => ?_)
            · have r_12834 : Rg 0 9 x_12831 := Rg.eq_l c_12833 (Rg.top x_12831) r_11995 (by decide)
              exact hj_12826 v_713 _ _ _ ⟨hHe, hlc, hP, lv_sub hl [0, 1, 2, 3, 4, 5] rfl⟩
            · obtain ⟨x_12835, e_12836⟩ : ∃ z : Int32, z = v_713 + Int32.ofInt 1 := ⟨_, rfl⟩
              refine lv_iinc (v := x_12835) (lv' := [(2, .int x_12835), (5, .int v_12454), (4, .int v_12455), (3, .int v_712), (0, .ref ox), (1, .int a)]) hx hb dX11_roundsAmong_85 hl (k := 3) rfl (e_12836.symm) (by decide) rfl (fun ls hl => ?_)
              exact hj_12826 x_12835 _ _ _ ⟨hHe, hlc, hP, lv_sub hl [1, 2, 3, 0, 4, 5] rfl⟩
      · refine lv_icmp_ge (tgt := 66) hx hb dX11_roundsAmong_32 (by decide) (fun c_12802 => ?_) (fun c_12802 => ?_)
        · have r_12803 : Rg 1 2147483647 v_12454 := Rg.le_r c_12802 r_11566 r_12801 (by decide)
          exact hj_12816 () _ _ _ ⟨hHe, hlc, hP, lv_sub hl [0, 1, 2, 3, 4, 5] rfl⟩
        · have r_12804 : Rg 0 2147483646 v_12454 := Rg.lt_l (nle_lt c_12802) r_12801 r_11566 (by decide)
          refine lv_iload hx hb dX11_roundsAmong_35 (lv_at hl 1 rfl) ?_
          refine lv_iload_n hx hb dX11_roundsAmong_37 rfl (lv_at hl 2 rfl) ?_
          refine lv_icmp_le (tgt := 66) hx hb dX11_roundsAmong_38 (by decide) (fun c_12837 => ?_) (fun c_12837 => ?_)
          · have r_12838 : Rg (-2147483648) 9 v_12455 := Rg.le_l c_12837 (Rg.top v_12455) r_11995 (by decide)
            exact hj_12816 () _ _ _ ⟨hHe, hlc, hP, lv_sub hl [0, 1, 2, 3, 4, 5] rfl⟩
          · have r_12839 : Rg 1 2147483647 v_12455 := Rg.lt_r (nle_lt c_12837) r_11995 (Rg.top v_12455) (by decide)
            refine lv_iload hx hb dX11_roundsAmong_41 (lv_at hl 1 rfl) ?_
            refine lv_bipush (v := 10) hx hb dX11_roundsAmong_43 (by decide) ?_
            refine lv_icmp_ge (tgt := 66) hx hb dX11_roundsAmong_45 (by decide) (fun c_12840 => ?_) (fun c_12840 => ?_)
            · have r_12841 : Rg 10 2147483647 v_12455 := Rg.le_r c_12840 (Rg.c (c := 10) (k := 10) rfl) r_12839 (by decide)
              exact hj_12816 () _ _ _ ⟨hHe, hlc, hP, lv_sub hl [0, 1, 2, 3, 4, 5] rfl⟩
            · have r_12842 : Rg 1 9 v_12455 := Rg.lt_l (nle_lt c_12840) r_12839 (Rg.c (c := 10) (k := 10) rfl) (by decide)
              refine lv_aload_n hx hb dX11_roundsAmong_48 rfl (lv_at hl 4 rfl) ?_
              refine va_get (D := D) (ci := 9) (v := .ref hw) (C := "WrongHole") (T := TX11) (N := 12) hx hb hts (iq_RX11 _) hown hK hP 0 rfl rfl 4 (by decide) (hT _ qq_1_206) (fun _ h9 => h9) rfl dX11_roundsAmong_49 ?_
              refine va_getN (D := D) (ci := 8) (v := .ref wa3) (C := "WrongHole$Worn") (T := TX10) (N := 9) hx hb hts (iq_RX10 _) hown hK hP 1 rfl rfl 8 (by decide) (NN.f hN nq_1_115) (fun _ h9 => h9) rfl dX11_roundsAmong_52 ?_
              refine lv_iload hx hb dX11_roundsAmong_55 (lv_at hl 1 rfl) ?_
              have hi_12843 : vp_in v_12455 10 := Rg.in r_12842 (by decide)
              refine va_iald hx hb hK hP 2 0 rfl rfl hi_12843 dX11_roundsAmong_57 ?_
              refine lv_topi (fun x_12844 e_12845 => ?_)
              refine lv_istore (lv' := [(4, .int x_12844), (5, .int v_12454), (3, .int v_712), (2, .int v_713), (0, .ref ox), (1, .int a)]) hx hb dX11_roundsAmong_58 hl (by decide) rfl (fun ls hl => ?_)
              obtain ⟨x_12846, e_12847⟩ : ∃ z : Int32, z = v_12454 + Int32.ofInt 1 := ⟨_, rfl⟩
              have r_12848 : Rg 1 2147483647 x_12846 := Rg.add e_12847 r_12804 (Rg.c (c := Int32.ofInt 1) (k := 1) rfl) (by decide)
              refine lv_iinc (v := x_12846) (lv' := [(5, .int x_12846), (4, .int x_12844), (3, .int v_712), (2, .int v_713), (0, .ref ox), (1, .int a)]) hx hb dX11_roundsAmong_60 hl (k := 1) rfl (e_12847.symm) (by decide) rfl (fun ls hl => ?_)
              refine lv_goto (tgt := 29) hx hb dX11_roundsAmong_63 (by decide) ?_
              exact ih_12800 (x_12846, x_12844) _ _ _ ⟨(Rg.wk (lo2 := 0) (hi2 := 2147483647) r_12848 (by decide)), hHe, hlc, hP, lv_sub hl [0, 1, 2, 3, 4, 5] rfl⟩ (ms_up e_12847 r_12804 (Rg.c (c := Int32.ofInt 1) (k := 1) rfl) (by decide))
theorem dX11_moves_0 : decode cX11_moves 0 = .ok (.iload_n 1, 1) := by decide +kernel
theorem dX11_moves_1 : decode cX11_moves 1 = .ok (.iconst 1, 1) := by decide +kernel
theorem dX11_moves_2 : decode cX11_moves 2 = .ok (.if_icmp .lt 9, 3) := by decide +kernel
theorem dX11_moves_11 : decode cX11_moves 11 = .ok (.iconst (-1), 1) := by decide +kernel
theorem dX11_moves_12 : decode cX11_moves 12 = .ok (.ireturn, 1) := by decide +kernel
theorem dX11_moves_5 : decode cX11_moves 5 = .ok (.iload_n 1, 1) := by decide +kernel
theorem dX11_moves_6 : decode cX11_moves 6 = .ok (.bipush 10, 2) := by decide +kernel
theorem dX11_moves_8 : decode cX11_moves 8 = .ok (.if_icmp .le 5, 3) := by decide +kernel
theorem dX11_moves_13 : decode cX11_moves 13 = .ok (.iconst 0, 1) := by decide +kernel
theorem dX11_moves_14 : decode cX11_moves 14 = .ok (.istore_n 2, 1) := by decide +kernel
theorem dX11_moves_15 : decode cX11_moves 15 = .ok (.iconst 0, 1) := by decide +kernel
theorem dX11_moves_16 : decode cX11_moves 16 = .ok (.istore_n 3, 1) := by decide +kernel
theorem dX11_moves_17 : decode cX11_moves 17 = .ok (.iconst 0, 1) := by decide +kernel
theorem dX11_moves_18 : decode cX11_moves 18 = .ok (.istore 4, 2) := by decide +kernel
theorem dX11_moves_20 : decode cX11_moves 20 = .ok (.iload 4, 2) := by decide +kernel
theorem dX11_moves_22 : decode cX11_moves 22 = .ok (.iload_n 1, 1) := by decide +kernel
theorem dX11_moves_23 : decode cX11_moves 23 = .ok (.if_icmp .ge 63, 3) := by decide +kernel
theorem dX11_moves_86 : decode cX11_moves 86 = .ok (.iload_n 3, 1) := by decide +kernel
theorem dX11_moves_87 : decode cX11_moves 87 = .ok (.ifCond .ne 10, 3) := by decide +kernel
theorem dX11_moves_97 : decode cX11_moves 97 = .ok (.iload_n 2, 1) := by decide +kernel
theorem dX11_moves_98 : decode cX11_moves 98 = .ok (.aload_n 0, 1) := by decide +kernel
theorem dX11_moves_99 : decode cX11_moves 99 = .ok (.iload_n 1, 1) := by decide +kernel
theorem dX11_moves_100 : decode cX11_moves 100 = .ok (.invokevirtual 312, 3) := by decide +kernel
theorem qq_5_110 : Cond.code yX11_roundsAmong cX11_roundsAmong 6 (some .int) ∈ TB := mk_tb (ti_5 (List.mem_of_getElem? (i := 110) rfl)) rfl
theorem qq_1_1 : Cond.initialized "WrongHole" ∈ TB := mk_tb (ti_1 (List.mem_of_getElem? (i := 1) rfl)) rfl
theorem qq_5_107 : Cond.methodLink "WrongHole" 312 yX11_roundsAmong ∈ TB := mk_tb (ti_5 (List.mem_of_getElem? (i := 107) rfl)) rfl
theorem qq_5_109 : Cond.instanceMethod yX11_roundsAmong ∈ TB := mk_tb (ti_5 (List.mem_of_getElem? (i := 109) rfl)) rfl
theorem qs_1_13 : Cond.selects "WrongHole" yX11_roundsAmong yX11_roundsAmong ∈ TB := mk_tb (ti_s (q := (yX11_roundsAmong, 12)) (List.mem_append_right _ (List.mem_append_left _ (List.mem_of_getElem? (i := 13) rfl)))) rfl
theorem dX11_moves_103 : decode cX11_moves 103 = .ok (.iadd, 1) := by decide +kernel
theorem dX11_moves_104 : decode cX11_moves 104 = .ok (.ireturn, 1) := by decide +kernel
theorem dX11_moves_90 : decode cX11_moves 90 = .ok (.iload_n 2, 1) := by decide +kernel
theorem dX11_moves_91 : decode cX11_moves 91 = .ok (.ifCond .le 6, 3) := by decide +kernel
theorem dX11_moves_94 : decode cX11_moves 94 = .ok (.bipush (-2), 2) := by decide +kernel
theorem dX11_moves_96 : decode cX11_moves 96 = .ok (.ireturn, 1) := by decide +kernel
theorem dX11_moves_26 : decode cX11_moves 26 = .ok (.aload_n 0, 1) := by decide +kernel
theorem dX11_moves_27 : decode cX11_moves 27 = .ok (.getfield 32, 3) := by decide +kernel
theorem dX11_moves_30 : decode cX11_moves 30 = .ok (.getfield 309, 3) := by decide +kernel
theorem dX11_moves_33 : decode cX11_moves 33 = .ok (.iload 4, 2) := by decide +kernel
theorem dX11_moves_35 : decode cX11_moves 35 = .ok (.iaload, 1) := by decide +kernel
theorem dX11_moves_36 : decode cX11_moves 36 = .ok (.iload_n 1, 1) := by decide +kernel
theorem dX11_moves_37 : decode cX11_moves 37 = .ok (.if_icmp .lt 5, 3) := by decide +kernel
theorem dX11_moves_42 : decode cX11_moves 42 = .ok (.aload_n 0, 1) := by decide +kernel
theorem dX11_moves_43 : decode cX11_moves 43 = .ok (.getfield 32, 3) := by decide +kernel
theorem dX11_moves_46 : decode cX11_moves 46 = .ok (.getfield 309, 3) := by decide +kernel
theorem dX11_moves_49 : decode cX11_moves 49 = .ok (.iload 4, 2) := by decide +kernel
theorem dX11_moves_51 : decode cX11_moves 51 = .ok (.iaload, 1) := by decide +kernel
theorem dX11_moves_52 : decode cX11_moves 52 = .ok (.iconst (-1), 1) := by decide +kernel
theorem dX11_moves_53 : decode cX11_moves 53 = .ok (.if_icmp .ne 9, 3) := by decide +kernel
theorem dX11_moves_80 : decode cX11_moves 80 = .ok (.iinc 4 1, 3) := by decide +kernel
theorem dX11_moves_83 : decode cX11_moves 83 = .ok (.goto (-63), 3) := by decide +kernel
theorem dX11_moves_62 : decode cX11_moves 62 = .ok (.aload_n 0, 1) := by decide +kernel
theorem dX11_moves_63 : decode cX11_moves 63 = .ok (.getfield 32, 3) := by decide +kernel
theorem dX11_moves_66 : decode cX11_moves 66 = .ok (.getfield 309, 3) := by decide +kernel
theorem dX11_moves_69 : decode cX11_moves 69 = .ok (.iload 4, 2) := by decide +kernel
theorem dX11_moves_71 : decode cX11_moves 71 = .ok (.iaload, 1) := by decide +kernel
theorem dX11_moves_72 : decode cX11_moves 72 = .ok (.iload 4, 2) := by decide +kernel
theorem dX11_moves_74 : decode cX11_moves 74 = .ok (.if_icmp .eq 6, 3) := by decide +kernel
theorem dX11_moves_77 : decode cX11_moves 77 = .ok (.iinc 2 1, 3) := by decide +kernel
theorem dX11_moves_56 : decode cX11_moves 56 = .ok (.iinc 3 1, 3) := by decide +kernel
theorem dX11_moves_59 : decode cX11_moves 59 = .ok (.goto 21, 3) := by decide +kernel
theorem dX11_moves_40 : decode cX11_moves 40 = .ok (.iconst (-1), 1) := by decide +kernel
theorem dX11_moves_41 : decode cX11_moves 41 = .ok (.ireturn, 1) := by decide +kernel
set_option maxHeartbeats 4000000 in
set_option maxRecDepth 100000 in
theorem c_W_moves_n (l : Launch) (D : va_G) (cs : Nat → ClassId) (ox : Nat) (ht : Nat) (hq : Nat) (og : Nat) (rc : Int32) (hw : Nat) (om : Nat) (hp : Nat) (ha : Nat) (hf : Nat) (hw0 : Nat) (qh : Option Nat) (qo : Option Nat) (wk : Int32) (wc : Int32) (wx : Int32) (wn : Int32) (wa0 : Nat) (wa1 : Nat) (wa2 : Nat) (wa3 : Nat) (wf3 : Nat → Int32) (a : Int32)  : Met l yX11_moves (Cond.code yX11_moves cX11_moves 5 (some .int) :: TB) (RM 1 0 0) (va_Pc [.ref ox, .int a] (PRR D cs [(ox, .inr (9, [.ref ht, .ref hq, .ref og, .int rc, .ref hw, .ref om, .ref hp, .ref ha, .ref hf, .ref hw0, va_rf qh, va_rf qo])), (hw, .inr (8, [.null, .int wk, .int wc, .int wx, .int wn, .ref wa0, .ref wa1, .ref wa2, .ref wa3])), (wa3, .inl ((cs 0), 10, .inl wf3))])) (QP (fun v => ∃ x : Int32, v = .int x)) 0 0 (fun _ => False) := by
  refine MER (y := yX11_moves) (cc := cX11_moves) (maxL := 5) (ret := (some .int)) (d := 1) (D := D) (cs := cs) (ws := [(ox, .inr (9, [.ref ht, .ref hq, .ref og, .int rc, .ref hw, .ref om, .ref hp, .ref ha, .ref hf, .ref hw0, va_rf qh, va_rf qo])), (hw, .inr (8, [.null, .int wk, .int wc, .int wx, .int wn, .ref wa0, .ref wa1, .ref wa2, .ref wa3])), (wa3, .inl ((cs 0), 10, .inl wf3))]) (av := [.ref ox, .int a]) (Qc := QP (fun v => ∃ x : Int32, v = .int x)) (by decide) (Nat.le_of_ble_eq_true rfl) ?_
  intro p e s m below meth c ls H hHe hx hb hr hml hown hts hlocks hP hK hN hl
  obtain ⟨locs, hlc⟩ : ∃ z : List Loc, z = [] := ⟨_, rfl⟩
  rw [← hlc]
  have hown : s.vm.findClass "WrongHole" = some m.cls := hown
  have hT : ∀ w ∈ TB, w.before ([.ref ox, .int a] : List Value).toArray s = true := fun w h => hts w (List.mem_cons_of_mem _ h)
  have hl : lv_has ls 5 [(0, .ref ox), (1, .int a)] := hl
  have hP : va_P D vwCl [(ox, .inr (9, [.ref ht, .ref hq, .ref og, .int rc, .ref hw, .ref om, .ref hp, .ref ha, .ref hf, .ref hw0, va_rf qh, va_rf qo])), (hw, .inr (8, [.null, .int wk, .int wc, .int wx, .int wn, .ref wa0, .ref wa1, .ref wa2, .ref wa3])), (wa3, .inl ((cs 0), 10, .inl wf3))] H := hP
  refine lv_iload_n hx hb dX11_moves_0 rfl (lv_at hl 1 rfl) ?_
  refine lv_iconst (v := 1) hx hb dX11_moves_1 (by decide) ?_
  refine lv_icmp_lt (tgt := 11) hx hb dX11_moves_2 (by decide) (fun c_1 => ?_) (fun c_1 => ?_)
  · have r_2 : Rg (-2147483648) 0 a := Rg.lt_l c_1 (Rg.top a) (Rg.c (c := 1) (k := 1) rfl) (by decide)
    refine lv_iconst (v := (-1)) hx hb dX11_moves_11 (by decide) ?_
    exact W.iret (v := (-1)) hx hb hr (fun t9 ht9 hW9 => ⟨⟨_, rfl, _, rfl⟩, ht9.trans hHe⟩) (fun _ h9 => by rw [hlc] at h9; exact absurd h9 List.not_mem_nil) dX11_moves_12
  · have r_3 : Rg 1 2147483647 a := Rg.le_r (nlt_le c_1) (Rg.c (c := 1) (k := 1) rfl) (Rg.top a) (by decide)
    refine lv_iload_n hx hb dX11_moves_5 rfl (lv_at hl 1 rfl) ?_
    refine lv_bipush (v := 10) hx hb dX11_moves_6 (by decide) ?_
    refine lv_icmp_le (tgt := 13) hx hb dX11_moves_8 (by decide) (fun c_4 => ?_) (fun c_4 => ?_)
    · have r_5 : Rg 1 10 a := Rg.le_l c_4 r_3 (Rg.c (c := 10) (k := 10) rfl) (by decide)
      refine lv_iconst (v := 0) hx hb dX11_moves_13 (by decide) ?_
      refine lv_istore_n (lv' := [(2, .int 0), (0, .ref ox), (1, .int a)]) hx hb dX11_moves_14 rfl hl (by decide) rfl (fun ls hl => ?_)
      refine lv_iconst (v := 0) hx hb dX11_moves_15 (by decide) ?_
      refine lv_istore_n (lv' := [(3, .int 0), (2, .int 0), (0, .ref ox), (1, .int a)]) hx hb dX11_moves_16 rfl hl (by decide) rfl (fun ls hl => ?_)
      refine lv_iconst (v := 0) hx hb dX11_moves_17 (by decide) ?_
      refine lv_istore (lv' := [(4, .int 0), (3, .int 0), (2, .int 0), (0, .ref ox), (1, .int a)]) hx hb dX11_moves_18 hl (by decide) rfl (fun ls hl => ?_)
      refine w_wh (σ := (Int32) × (Int32) × (Int32)) (fun x9 H locs ls => match x9 with | (v_27, v_28, v_29) => Rg 0 10 v_27 ∧ H = s.heap ∧ locs = [] ∧ va_P D vwCl [(ox, .inr (9, [.ref ht, .ref hq, .ref og, .int rc, .ref hw, .ref om, .ref hp, .ref ha, .ref hf, .ref hw0, va_rf qh, va_rf qo])), (hw, .inr (8, [.null, .int wk, .int wc, .int wx, .int wn, .ref wa0, .ref wa1, .ref wa2, .ref wa3])), (wa3, .inl ((cs 0), 10, .inl wf3))] H ∧ lv_has ls 5 [(4, .int v_27), (3, .int v_28), (2, .int v_29), (0, .ref ox), (1, .int a)]) (fun x9 => match x9 with | (v_27, v_28, v_29) => (10 - Int32.toInt v_27).toNat) 20 ?_ (0, 0, 0) H locs ls ⟨(Rg.wk (lo2 := 0) (hi2 := 10) (Rg.c (c := 0) (k := 0) rfl) (by decide)), hHe, hlc, hP, lv_sub hl [0, 1, 2, 3, 4] rfl⟩
      rintro ⟨v_27, v_28, v_29⟩ H locs ls ⟨r_537, hHe, hlc, hP, hl⟩ ih_536
      refine lv_iload hx hb dX11_moves_20 (lv_at hl 0 rfl) ?_
      refine lv_iload_n hx hb dX11_moves_22 rfl (lv_at hl 4 rfl) ?_
      refine lv_icmp_ge (tgt := 86) hx hb dX11_moves_23 (by decide) (fun c_538 => ?_) (fun c_538 => ?_)
      · have r_539 : Rg 1 10 v_27 := Rg.le_r c_538 r_5 r_537 (by decide)
        refine lv_iload_n hx hb dX11_moves_86 rfl (lv_at hl 1 rfl) ?_
        refine lv_if_ne (tgt := 97) hx hb dX11_moves_87 (by decide) (fun c_541 => ?_) (fun c_541 => ?_)
        · refine lv_iload_n hx hb dX11_moves_97 rfl (lv_at hl 2 rfl) ?_
          refine lv_aload_n hx hb dX11_moves_98 rfl (lv_at hl 3 rfl) ?_
          refine lv_iload_n hx hb dX11_moves_99 rfl (lv_at hl 4 rfl) ?_
          have hPc := va_P.sub (ws' := [(ox, .inr (9, [.ref ht, .ref hq, .ref og, .int rc, .ref hw, .ref om, .ref hp, .ref ha, .ref hf, .ref hw0, va_rf qh, va_rf qo])), (hw, .inr (8, [.null, .int wk, .int wc, .int wx, .int wn, .ref wa0, .ref wa1, .ref wa2, .ref wa3])), (wa3, .inl ((cs 0), 10, .inl wf3))]) hP [0, 1, 2] rfl
          refine cl_P (W.runV (As := [.int a]) (rest := [.int v_29]) ⟨hx, hb, hml, hown, hts⟩ (c_W_roundsAmong_n l D cs ox ht hq og rc hw om hp ha hf hw0 qh qo wk wc wx wn wa0 wa1 wa2 wa3 wf3 a) ⟨callB_of 1 hts (gd_C qq_5_110) rfl rfl rfl (hT _ qq_1_1) (hT _ qq_5_107) (by decide +kernel) (rm_R rfl rfl), (hT _ qq_5_109), (hT _ qs_1_13)⟩ (pq_V hPc hK hN (ci := 9) (q0 := 0) rfl rfl) rfl rfl hl.1 rfl (lv_room (Nat.le_of_ble_eq_true rfl)) dX11_moves_100 ⟨Nat.le_of_ble_eq_true rfl, Nat.le_of_ble_eq_true rfl⟩) (fun v9 hz_544 => ?_)
          obtain ⟨x_543, rfl⟩ := hz_544
          refine lv_iadd hx hb dX11_moves_103 ?_
          refine lv_topi (fun x_546 e_547 => ?_)
          exact W.iret (v := x_546) hx hb hr (fun t9 ht9 hW9 => ⟨⟨_, rfl, _, rfl⟩, ht9.trans hHe⟩) (fun _ h9 => by rw [hlc] at h9; exact absurd h9 List.not_mem_nil) dX11_moves_104
        · have r_542 : Rg 0 0 v_28 := Rg.eq_l c_541 (Rg.top v_28) (Rg.c (c := 0) (k := 0) rfl) (by decide)
          refine lv_iload_n hx hb dX11_moves_90 rfl (lv_at hl 2 rfl) ?_
          refine lv_if_le (tgt := 97) hx hb dX11_moves_91 (by decide) (fun c_548 => ?_) (fun c_548 => ?_)
          · have r_549 : Rg (-2147483648) 0 v_29 := Rg.le_l c_548 (Rg.top v_29) (Rg.c (c := 0) (k := 0) rfl) (by decide)
            refine lv_iload_n hx hb dX11_moves_97 rfl (lv_at hl 2 rfl) ?_
            refine lv_aload_n hx hb dX11_moves_98 rfl (lv_at hl 3 rfl) ?_
            refine lv_iload_n hx hb dX11_moves_99 rfl (lv_at hl 4 rfl) ?_
            have hPc := va_P.sub (ws' := [(ox, .inr (9, [.ref ht, .ref hq, .ref og, .int rc, .ref hw, .ref om, .ref hp, .ref ha, .ref hf, .ref hw0, va_rf qh, va_rf qo])), (hw, .inr (8, [.null, .int wk, .int wc, .int wx, .int wn, .ref wa0, .ref wa1, .ref wa2, .ref wa3])), (wa3, .inl ((cs 0), 10, .inl wf3))]) hP [0, 1, 2] rfl
            refine cl_P (W.runV (As := [.int a]) (rest := [.int v_29]) ⟨hx, hb, hml, hown, hts⟩ (c_W_roundsAmong_n l D cs ox ht hq og rc hw om hp ha hf hw0 qh qo wk wc wx wn wa0 wa1 wa2 wa3 wf3 a) ⟨callB_of 1 hts (gd_C qq_5_110) rfl rfl rfl (hT _ qq_1_1) (hT _ qq_5_107) (by decide +kernel) (rm_R rfl rfl), (hT _ qq_5_109), (hT _ qs_1_13)⟩ (pq_V hPc hK hN (ci := 9) (q0 := 0) rfl rfl) rfl rfl hl.1 rfl (lv_room (Nat.le_of_ble_eq_true rfl)) dX11_moves_100 ⟨Nat.le_of_ble_eq_true rfl, Nat.le_of_ble_eq_true rfl⟩) (fun v9 hz_552 => ?_)
            obtain ⟨x_551, rfl⟩ := hz_552
            refine lv_iadd hx hb dX11_moves_103 ?_
            refine lv_topi (fun x_554 e_555 => ?_)
            exact W.iret (v := x_554) hx hb hr (fun t9 ht9 hW9 => ⟨⟨_, rfl, _, rfl⟩, ht9.trans hHe⟩) (fun _ h9 => by rw [hlc] at h9; exact absurd h9 List.not_mem_nil) dX11_moves_104
          · have r_550 : Rg 1 2147483647 v_29 := Rg.lt_r (nle_lt c_548) (Rg.c (c := 0) (k := 0) rfl) (Rg.top v_29) (by decide)
            refine lv_bipush (v := (-2)) hx hb dX11_moves_94 (by decide) ?_
            exact W.iret (v := (-2)) hx hb hr (fun t9 ht9 hW9 => ⟨⟨_, rfl, _, rfl⟩, ht9.trans hHe⟩) (fun _ h9 => by rw [hlc] at h9; exact absurd h9 List.not_mem_nil) dX11_moves_96
      · have r_540 : Rg 0 9 v_27 := Rg.lt_l (nle_lt c_538) r_537 r_5 (by decide)
        refine lv_aload_n hx hb dX11_moves_26 rfl (lv_at hl 3 rfl) ?_
        refine va_get (D := D) (ci := 9) (v := .ref hw) (C := "WrongHole") (T := TX11) (N := 12) hx hb hts (iq_RX11 _) hown hK hP 0 rfl rfl 4 (by decide) (hT _ qq_1_206) (fun _ h9 => h9) rfl dX11_moves_27 ?_
        refine va_getN (D := D) (ci := 8) (v := .ref wa3) (C := "WrongHole$Worn") (T := TX10) (N := 9) hx hb hts (iq_RX10 _) hown hK hP 1 rfl rfl 8 (by decide) (NN.f hN nq_1_115) (fun _ h9 => h9) rfl dX11_moves_30 ?_
        refine lv_iload hx hb dX11_moves_33 (lv_at hl 0 rfl) ?_
        have hi_556 : vp_in v_27 10 := Rg.in r_540 (by decide)
        refine va_iald hx hb hK hP 2 0 rfl rfl hi_556 dX11_moves_35 ?_
        refine lv_topi (fun x_557 e_558 => ?_)
        refine lv_iload_n hx hb dX11_moves_36 rfl (lv_at hl 4 rfl) ?_
        refine lv_icmp_lt (tgt := 42) hx hb dX11_moves_37 (by decide) (fun c_559 => ?_) (fun c_559 => ?_)
        · have r_560 : Rg (-2147483648) 9 x_557 := Rg.lt_l c_559 (Rg.top x_557) r_5 (by decide)
          refine lv_aload_n hx hb dX11_moves_42 rfl (lv_at hl 3 rfl) ?_
          refine va_get (D := D) (ci := 9) (v := .ref hw) (C := "WrongHole") (T := TX11) (N := 12) hx hb hts (iq_RX11 _) hown hK hP 0 rfl rfl 4 (by decide) (hT _ qq_1_206) (fun _ h9 => h9) rfl dX11_moves_43 ?_
          refine va_getN (D := D) (ci := 8) (v := .ref wa3) (C := "WrongHole$Worn") (T := TX10) (N := 9) hx hb hts (iq_RX10 _) hown hK hP 1 rfl rfl 8 (by decide) (NN.f hN nq_1_115) (fun _ h9 => h9) rfl dX11_moves_46 ?_
          refine lv_iload hx hb dX11_moves_49 (lv_at hl 0 rfl) ?_
          have hi_562 : vp_in v_27 10 := Rg.in r_540 (by decide)
          refine va_iald hx hb hK hP 2 0 rfl rfl hi_562 dX11_moves_51 ?_
          refine lv_topi (fun x_563 e_564 => ?_)
          refine lv_iconst (v := (-1)) hx hb dX11_moves_52 (by decide) ?_
          refine w_cut (σ := (Int32) × (Int32)) (fun x9 H locs ls => match x9 with | (v_575, v_576) => H = s.heap ∧ locs = [] ∧ va_P D vwCl [(ox, .inr (9, [.ref ht, .ref hq, .ref og, .int rc, .ref hw, .ref om, .ref hp, .ref ha, .ref hf, .ref hw0, va_rf qh, va_rf qo])), (hw, .inr (8, [.null, .int wk, .int wc, .int wx, .int wn, .ref wa0, .ref wa1, .ref wa2, .ref wa3])), (wa3, .inl ((cs 0), 10, .inl wf3))] H ∧ lv_has ls 5 [(4, .int v_27), (3, .int v_575), (2, .int v_576), (0, .ref ox), (1, .int a)]) 80 (fun x9 => match x9 with | (v_575, v_576) => []) ?_ (fun hj_577 => ?_)
          · rintro ⟨v_575, v_576⟩ H locs ls ⟨hHe, hlc, hP, hl⟩
            obtain ⟨x_578, e_579⟩ : ∃ z : Int32, z = v_27 + Int32.ofInt 1 := ⟨_, rfl⟩
            have r_580 : Rg 1 10 x_578 := Rg.add e_579 r_540 (Rg.c (c := Int32.ofInt 1) (k := 1) rfl) (by decide)
            refine lv_iinc (v := x_578) (lv' := [(4, .int x_578), (3, .int v_575), (2, .int v_576), (0, .ref ox), (1, .int a)]) hx hb dX11_moves_80 hl (k := 0) rfl (e_579.symm) (by decide) rfl (fun ls hl => ?_)
            refine lv_goto (tgt := 20) hx hb dX11_moves_83 (by decide) ?_
            exact ih_536 (x_578, v_575, v_576) _ _ _ ⟨(Rg.wk (lo2 := 0) (hi2 := 10) r_580 (by decide)), hHe, hlc, hP, lv_sub hl [0, 1, 2, 3, 4] rfl⟩ (ms_up e_579 r_540 (Rg.c (c := Int32.ofInt 1) (k := 1) rfl) (by decide))
          · refine lv_icmp_ne (tgt := 62) hx hb dX11_moves_53 (by decide) (fun c_565 => ?_) (fun c_565 => ?_)
            · refine lv_aload_n hx hb dX11_moves_62 rfl (lv_at hl 3 rfl) ?_
              refine va_get (D := D) (ci := 9) (v := .ref hw) (C := "WrongHole") (T := TX11) (N := 12) hx hb hts (iq_RX11 _) hown hK hP 0 rfl rfl 4 (by decide) (hT _ qq_1_206) (fun _ h9 => h9) rfl dX11_moves_63 ?_
              refine va_getN (D := D) (ci := 8) (v := .ref wa3) (C := "WrongHole$Worn") (T := TX10) (N := 9) hx hb hts (iq_RX10 _) hown hK hP 1 rfl rfl 8 (by decide) (NN.f hN nq_1_115) (fun _ h9 => h9) rfl dX11_moves_66 ?_
              refine lv_iload hx hb dX11_moves_69 (lv_at hl 0 rfl) ?_
              have hi_581 : vp_in v_27 10 := Rg.in r_540 (by decide)
              refine va_iald hx hb hK hP 2 0 rfl rfl hi_581 dX11_moves_71 ?_
              refine lv_topi (fun x_582 e_583 => ?_)
              refine lv_iload hx hb dX11_moves_72 (lv_at hl 0 rfl) ?_
              refine lv_icmp_eq (tgt := 80) hx hb dX11_moves_74 (by decide) (fun c_584 => ?_) (fun c_584 => ?_)
              · have r_585 : Rg 0 9 x_582 := Rg.eq_l c_584 (Rg.top x_582) r_540 (by decide)
                exact hj_577 (v_28, v_29) _ _ _ ⟨hHe, hlc, hP, lv_sub hl [0, 1, 2, 3, 4] rfl⟩
              · obtain ⟨x_586, e_587⟩ : ∃ z : Int32, z = v_29 + Int32.ofInt 1 := ⟨_, rfl⟩
                refine lv_iinc (v := x_586) (lv' := [(2, .int x_586), (4, .int v_27), (3, .int v_28), (0, .ref ox), (1, .int a)]) hx hb dX11_moves_77 hl (k := 2) rfl (e_587.symm) (by decide) rfl (fun ls hl => ?_)
                exact hj_577 (v_28, x_586) _ _ _ ⟨hHe, hlc, hP, lv_sub hl [1, 2, 0, 3, 4] rfl⟩
            · have r_566 : Rg (-1) (-1) x_563 := Rg.eq_l c_565 (Rg.top x_563) (Rg.c (c := (-1)) (k := (-1)) rfl) (by decide)
              obtain ⟨x_588, e_589⟩ : ∃ z : Int32, z = v_28 + Int32.ofInt 1 := ⟨_, rfl⟩
              refine lv_iinc (v := x_588) (lv' := [(3, .int x_588), (4, .int v_27), (2, .int v_29), (0, .ref ox), (1, .int a)]) hx hb dX11_moves_56 hl (k := 1) rfl (e_589.symm) (by decide) rfl (fun ls hl => ?_)
              refine lv_goto (tgt := 80) hx hb dX11_moves_59 (by decide) ?_
              exact hj_577 (x_588, v_29) _ _ _ ⟨hHe, hlc, hP, lv_sub hl [1, 0, 2, 3, 4] rfl⟩
        · have r_561 : Rg 1 2147483647 x_557 := Rg.le_r (nlt_le c_559) r_5 (Rg.top x_557) (by decide)
          refine lv_iconst (v := (-1)) hx hb dX11_moves_40 (by decide) ?_
          exact W.iret (v := (-1)) hx hb hr (fun t9 ht9 hW9 => ⟨⟨_, rfl, _, rfl⟩, ht9.trans hHe⟩) (fun _ h9 => by rw [hlc] at h9; exact absurd h9 List.not_mem_nil) dX11_moves_41
    · have r_6 : Rg 11 2147483647 a := Rg.lt_r (nle_lt c_4) (Rg.c (c := 10) (k := 10) rfl) r_3 (by decide)
      refine lv_iconst (v := (-1)) hx hb dX11_moves_11 (by decide) ?_
      exact W.iret (v := (-1)) hx hb hr (fun t9 ht9 hW9 => ⟨⟨_, rfl, _, rfl⟩, ht9.trans hHe⟩) (fun _ h9 => by rw [hlc] at h9; exact absurd h9 List.not_mem_nil) dX11_moves_12
set_option maxHeartbeats 4000000 in
set_option maxRecDepth 100000 in
theorem c_W_moves_r (l : Launch) (D : va_G) (cs : Nat → ClassId) (ox : Nat) (ht : Nat) (hq : Nat) (og : Nat) (rc : Int32) (hw : Nat) (om : Nat) (hp : Nat) (ha : Nat) (hf : Nat) (hw0 : Nat) (qh : Option Nat) (qo : Option Nat) (wk : Int32) (wc : Int32) (wx : Int32) (wn : Int32) (wa0 : Nat) (wa1 : Nat) (wa2 : Nat) (wa3 : Nat) (wf3 : Nat → Int32) (hl0 : Nat) (lb : Int32) (lh : Int32) (lg : Int32) (lw : Int32) (lv : Int32) (lbs : Int32) (lti : Int32) (lts : Int32) (le : Int32) (lk : Int32) (la : Int32) (l0 : Nat) (l1 : Nat) (l2 : Nat) (l3 : Nat) (l4 : Nat) (l5 : Nat) (l6 : Nat) (l7 : Nat) (a : Int32) (r_lb : Rg 0 8 lb) (r_lh : Rg 0 8 lh) (r_le : Rg 0 6 le) : Met l yX11_moves (Cond.code yX11_moves cX11_moves 5 (some .int) :: TB) (RM 1 0 0) (va_Pc [.ref ox, .int a] (PRR D cs [(ox, .inr (9, [.ref ht, .ref hq, .ref og, .int rc, .ref hw, .ref om, .ref hp, .ref ha, .ref hf, .ref hw0, va_rf qh, va_rf qo])), (hw, .inr (8, [.ref hl0, .int wk, .int wc, .int wx, .int wn, .ref wa0, .ref wa1, .ref wa2, .ref wa3])), (wa3, .inl ((cs 0), 10, .inl wf3)), (hl0, .inr (2, [.int lb, .int lh, .int lg, .int lw, .int lv, .int lbs, .int lti, .int lts, .int le, .int lk, .int la, .ref l0, .ref l1, .ref l2, .ref l3, .ref l4, .ref l5, .ref l6, .ref l7]))])) (QP (fun v => ∃ x : Int32, v = .int x)) 0 0 (fun _ => False) := by
  refine MER (y := yX11_moves) (cc := cX11_moves) (maxL := 5) (ret := (some .int)) (d := 1) (D := D) (cs := cs) (ws := [(ox, .inr (9, [.ref ht, .ref hq, .ref og, .int rc, .ref hw, .ref om, .ref hp, .ref ha, .ref hf, .ref hw0, va_rf qh, va_rf qo])), (hw, .inr (8, [.ref hl0, .int wk, .int wc, .int wx, .int wn, .ref wa0, .ref wa1, .ref wa2, .ref wa3])), (wa3, .inl ((cs 0), 10, .inl wf3)), (hl0, .inr (2, [.int lb, .int lh, .int lg, .int lw, .int lv, .int lbs, .int lti, .int lts, .int le, .int lk, .int la, .ref l0, .ref l1, .ref l2, .ref l3, .ref l4, .ref l5, .ref l6, .ref l7]))]) (av := [.ref ox, .int a]) (Qc := QP (fun v => ∃ x : Int32, v = .int x)) (by decide) (Nat.le_of_ble_eq_true rfl) ?_
  intro p e s m below meth c ls H hHe hx hb hr hml hown hts hlocks hP hK hN hl
  obtain ⟨locs, hlc⟩ : ∃ z : List Loc, z = [] := ⟨_, rfl⟩
  rw [← hlc]
  have hown : s.vm.findClass "WrongHole" = some m.cls := hown
  have hT : ∀ w ∈ TB, w.before ([.ref ox, .int a] : List Value).toArray s = true := fun w h => hts w (List.mem_cons_of_mem _ h)
  have hl : lv_has ls 5 [(0, .ref ox), (1, .int a)] := hl
  have hP : va_P D vwCl [(ox, .inr (9, [.ref ht, .ref hq, .ref og, .int rc, .ref hw, .ref om, .ref hp, .ref ha, .ref hf, .ref hw0, va_rf qh, va_rf qo])), (hw, .inr (8, [.ref hl0, .int wk, .int wc, .int wx, .int wn, .ref wa0, .ref wa1, .ref wa2, .ref wa3])), (wa3, .inl ((cs 0), 10, .inl wf3)), (hl0, .inr (2, [.int lb, .int lh, .int lg, .int lw, .int lv, .int lbs, .int lti, .int lts, .int le, .int lk, .int la, .ref l0, .ref l1, .ref l2, .ref l3, .ref l4, .ref l5, .ref l6, .ref l7]))] H := hP
  refine lv_iload_n hx hb dX11_moves_0 rfl (lv_at hl 1 rfl) ?_
  refine lv_iconst (v := 1) hx hb dX11_moves_1 (by decide) ?_
  refine lv_icmp_lt (tgt := 11) hx hb dX11_moves_2 (by decide) (fun c_1 => ?_) (fun c_1 => ?_)
  · have r_2 : Rg (-2147483648) 0 a := Rg.lt_l c_1 (Rg.top a) (Rg.c (c := 1) (k := 1) rfl) (by decide)
    refine lv_iconst (v := (-1)) hx hb dX11_moves_11 (by decide) ?_
    exact W.iret (v := (-1)) hx hb hr (fun t9 ht9 hW9 => ⟨⟨_, rfl, _, rfl⟩, ht9.trans hHe⟩) (fun _ h9 => by rw [hlc] at h9; exact absurd h9 List.not_mem_nil) dX11_moves_12
  · have r_3 : Rg 1 2147483647 a := Rg.le_r (nlt_le c_1) (Rg.c (c := 1) (k := 1) rfl) (Rg.top a) (by decide)
    refine lv_iload_n hx hb dX11_moves_5 rfl (lv_at hl 1 rfl) ?_
    refine lv_bipush (v := 10) hx hb dX11_moves_6 (by decide) ?_
    refine lv_icmp_le (tgt := 13) hx hb dX11_moves_8 (by decide) (fun c_4 => ?_) (fun c_4 => ?_)
    · have r_5 : Rg 1 10 a := Rg.le_l c_4 r_3 (Rg.c (c := 10) (k := 10) rfl) (by decide)
      refine lv_iconst (v := 0) hx hb dX11_moves_13 (by decide) ?_
      refine lv_istore_n (lv' := [(2, .int 0), (0, .ref ox), (1, .int a)]) hx hb dX11_moves_14 rfl hl (by decide) rfl (fun ls hl => ?_)
      refine lv_iconst (v := 0) hx hb dX11_moves_15 (by decide) ?_
      refine lv_istore_n (lv' := [(3, .int 0), (2, .int 0), (0, .ref ox), (1, .int a)]) hx hb dX11_moves_16 rfl hl (by decide) rfl (fun ls hl => ?_)
      refine lv_iconst (v := 0) hx hb dX11_moves_17 (by decide) ?_
      refine lv_istore (lv' := [(4, .int 0), (3, .int 0), (2, .int 0), (0, .ref ox), (1, .int a)]) hx hb dX11_moves_18 hl (by decide) rfl (fun ls hl => ?_)
      refine w_wh (σ := (Int32) × (Int32) × (Int32)) (fun x9 H locs ls => match x9 with | (v_27, v_28, v_29) => Rg 0 10 v_27 ∧ H = s.heap ∧ locs = [] ∧ va_P D vwCl [(ox, .inr (9, [.ref ht, .ref hq, .ref og, .int rc, .ref hw, .ref om, .ref hp, .ref ha, .ref hf, .ref hw0, va_rf qh, va_rf qo])), (hw, .inr (8, [.ref hl0, .int wk, .int wc, .int wx, .int wn, .ref wa0, .ref wa1, .ref wa2, .ref wa3])), (wa3, .inl ((cs 0), 10, .inl wf3)), (hl0, .inr (2, [.int lb, .int lh, .int lg, .int lw, .int lv, .int lbs, .int lti, .int lts, .int le, .int lk, .int la, .ref l0, .ref l1, .ref l2, .ref l3, .ref l4, .ref l5, .ref l6, .ref l7]))] H ∧ lv_has ls 5 [(4, .int v_27), (3, .int v_28), (2, .int v_29), (0, .ref ox), (1, .int a)]) (fun x9 => match x9 with | (v_27, v_28, v_29) => (10 - Int32.toInt v_27).toNat) 20 ?_ (0, 0, 0) H locs ls ⟨(Rg.wk (lo2 := 0) (hi2 := 10) (Rg.c (c := 0) (k := 0) rfl) (by decide)), hHe, hlc, hP, lv_sub hl [0, 1, 2, 3, 4] rfl⟩
      rintro ⟨v_27, v_28, v_29⟩ H locs ls ⟨r_537, hHe, hlc, hP, hl⟩ ih_536
      refine lv_iload hx hb dX11_moves_20 (lv_at hl 0 rfl) ?_
      refine lv_iload_n hx hb dX11_moves_22 rfl (lv_at hl 4 rfl) ?_
      refine lv_icmp_ge (tgt := 86) hx hb dX11_moves_23 (by decide) (fun c_538 => ?_) (fun c_538 => ?_)
      · have r_539 : Rg 1 10 v_27 := Rg.le_r c_538 r_5 r_537 (by decide)
        refine lv_iload_n hx hb dX11_moves_86 rfl (lv_at hl 1 rfl) ?_
        refine lv_if_ne (tgt := 97) hx hb dX11_moves_87 (by decide) (fun c_541 => ?_) (fun c_541 => ?_)
        · refine lv_iload_n hx hb dX11_moves_97 rfl (lv_at hl 2 rfl) ?_
          refine lv_aload_n hx hb dX11_moves_98 rfl (lv_at hl 3 rfl) ?_
          refine lv_iload_n hx hb dX11_moves_99 rfl (lv_at hl 4 rfl) ?_
          have hPc := va_P.sub (ws' := [(ox, .inr (9, [.ref ht, .ref hq, .ref og, .int rc, .ref hw, .ref om, .ref hp, .ref ha, .ref hf, .ref hw0, va_rf qh, va_rf qo])), (hw, .inr (8, [.ref hl0, .int wk, .int wc, .int wx, .int wn, .ref wa0, .ref wa1, .ref wa2, .ref wa3])), (wa3, .inl ((cs 0), 10, .inl wf3)), (hl0, .inr (2, [.int lb, .int lh, .int lg, .int lw, .int lv, .int lbs, .int lti, .int lts, .int le, .int lk, .int la, .ref l0, .ref l1, .ref l2, .ref l3, .ref l4, .ref l5, .ref l6, .ref l7]))]) hP [0, 1, 2, 3] rfl
          refine cl_P (W.runV (As := [.int a]) (rest := [.int v_29]) ⟨hx, hb, hml, hown, hts⟩ (c_W_roundsAmong_r l D cs ox ht hq og rc hw om hp ha hf hw0 qh qo wk wc wx wn wa0 wa1 wa2 wa3 wf3 hl0 lb lh lg lw lv lbs lti lts le lk la l0 l1 l2 l3 l4 l5 l6 l7 a r_lb r_lh r_le) ⟨callB_of 1 hts (gd_C qq_5_110) rfl rfl rfl (hT _ qq_1_1) (hT _ qq_5_107) (by decide +kernel) (rm_R rfl rfl), (hT _ qq_5_109), (hT _ qs_1_13)⟩ (pq_V hPc hK hN (ci := 9) (q0 := 0) rfl rfl) rfl rfl hl.1 rfl (lv_room (Nat.le_of_ble_eq_true rfl)) dX11_moves_100 ⟨Nat.le_of_ble_eq_true rfl, Nat.le_of_ble_eq_true rfl⟩) (fun v9 hz_544 => ?_)
          obtain ⟨x_543, rfl⟩ := hz_544
          refine lv_iadd hx hb dX11_moves_103 ?_
          refine lv_topi (fun x_546 e_547 => ?_)
          exact W.iret (v := x_546) hx hb hr (fun t9 ht9 hW9 => ⟨⟨_, rfl, _, rfl⟩, ht9.trans hHe⟩) (fun _ h9 => by rw [hlc] at h9; exact absurd h9 List.not_mem_nil) dX11_moves_104
        · have r_542 : Rg 0 0 v_28 := Rg.eq_l c_541 (Rg.top v_28) (Rg.c (c := 0) (k := 0) rfl) (by decide)
          refine lv_iload_n hx hb dX11_moves_90 rfl (lv_at hl 2 rfl) ?_
          refine lv_if_le (tgt := 97) hx hb dX11_moves_91 (by decide) (fun c_548 => ?_) (fun c_548 => ?_)
          · have r_549 : Rg (-2147483648) 0 v_29 := Rg.le_l c_548 (Rg.top v_29) (Rg.c (c := 0) (k := 0) rfl) (by decide)
            refine lv_iload_n hx hb dX11_moves_97 rfl (lv_at hl 2 rfl) ?_
            refine lv_aload_n hx hb dX11_moves_98 rfl (lv_at hl 3 rfl) ?_
            refine lv_iload_n hx hb dX11_moves_99 rfl (lv_at hl 4 rfl) ?_
            have hPc := va_P.sub (ws' := [(ox, .inr (9, [.ref ht, .ref hq, .ref og, .int rc, .ref hw, .ref om, .ref hp, .ref ha, .ref hf, .ref hw0, va_rf qh, va_rf qo])), (hw, .inr (8, [.ref hl0, .int wk, .int wc, .int wx, .int wn, .ref wa0, .ref wa1, .ref wa2, .ref wa3])), (wa3, .inl ((cs 0), 10, .inl wf3)), (hl0, .inr (2, [.int lb, .int lh, .int lg, .int lw, .int lv, .int lbs, .int lti, .int lts, .int le, .int lk, .int la, .ref l0, .ref l1, .ref l2, .ref l3, .ref l4, .ref l5, .ref l6, .ref l7]))]) hP [0, 1, 2, 3] rfl
            refine cl_P (W.runV (As := [.int a]) (rest := [.int v_29]) ⟨hx, hb, hml, hown, hts⟩ (c_W_roundsAmong_r l D cs ox ht hq og rc hw om hp ha hf hw0 qh qo wk wc wx wn wa0 wa1 wa2 wa3 wf3 hl0 lb lh lg lw lv lbs lti lts le lk la l0 l1 l2 l3 l4 l5 l6 l7 a r_lb r_lh r_le) ⟨callB_of 1 hts (gd_C qq_5_110) rfl rfl rfl (hT _ qq_1_1) (hT _ qq_5_107) (by decide +kernel) (rm_R rfl rfl), (hT _ qq_5_109), (hT _ qs_1_13)⟩ (pq_V hPc hK hN (ci := 9) (q0 := 0) rfl rfl) rfl rfl hl.1 rfl (lv_room (Nat.le_of_ble_eq_true rfl)) dX11_moves_100 ⟨Nat.le_of_ble_eq_true rfl, Nat.le_of_ble_eq_true rfl⟩) (fun v9 hz_552 => ?_)
            obtain ⟨x_551, rfl⟩ := hz_552
            refine lv_iadd hx hb dX11_moves_103 ?_
            refine lv_topi (fun x_554 e_555 => ?_)
            exact W.iret (v := x_554) hx hb hr (fun t9 ht9 hW9 => ⟨⟨_, rfl, _, rfl⟩, ht9.trans hHe⟩) (fun _ h9 => by rw [hlc] at h9; exact absurd h9 List.not_mem_nil) dX11_moves_104
          · have r_550 : Rg 1 2147483647 v_29 := Rg.lt_r (nle_lt c_548) (Rg.c (c := 0) (k := 0) rfl) (Rg.top v_29) (by decide)
            refine lv_bipush (v := (-2)) hx hb dX11_moves_94 (by decide) ?_
            exact W.iret (v := (-2)) hx hb hr (fun t9 ht9 hW9 => ⟨⟨_, rfl, _, rfl⟩, ht9.trans hHe⟩) (fun _ h9 => by rw [hlc] at h9; exact absurd h9 List.not_mem_nil) dX11_moves_96
      · have r_540 : Rg 0 9 v_27 := Rg.lt_l (nle_lt c_538) r_537 r_5 (by decide)
        refine lv_aload_n hx hb dX11_moves_26 rfl (lv_at hl 3 rfl) ?_
        refine va_get (D := D) (ci := 9) (v := .ref hw) (C := "WrongHole") (T := TX11) (N := 12) hx hb hts (iq_RX11 _) hown hK hP 0 rfl rfl 4 (by decide) (hT _ qq_1_206) (fun _ h9 => h9) rfl dX11_moves_27 ?_
        refine va_getN (D := D) (ci := 8) (v := .ref wa3) (C := "WrongHole$Worn") (T := TX10) (N := 9) hx hb hts (iq_RX10 _) hown hK hP 1 rfl rfl 8 (by decide) (NN.f hN nq_1_115) (fun _ h9 => h9) rfl dX11_moves_30 ?_
        refine lv_iload hx hb dX11_moves_33 (lv_at hl 0 rfl) ?_
        have hi_556 : vp_in v_27 10 := Rg.in r_540 (by decide)
        refine va_iald hx hb hK hP 2 0 rfl rfl hi_556 dX11_moves_35 ?_
        refine lv_topi (fun x_557 e_558 => ?_)
        refine lv_iload_n hx hb dX11_moves_36 rfl (lv_at hl 4 rfl) ?_
        refine lv_icmp_lt (tgt := 42) hx hb dX11_moves_37 (by decide) (fun c_559 => ?_) (fun c_559 => ?_)
        · have r_560 : Rg (-2147483648) 9 x_557 := Rg.lt_l c_559 (Rg.top x_557) r_5 (by decide)
          refine lv_aload_n hx hb dX11_moves_42 rfl (lv_at hl 3 rfl) ?_
          refine va_get (D := D) (ci := 9) (v := .ref hw) (C := "WrongHole") (T := TX11) (N := 12) hx hb hts (iq_RX11 _) hown hK hP 0 rfl rfl 4 (by decide) (hT _ qq_1_206) (fun _ h9 => h9) rfl dX11_moves_43 ?_
          refine va_getN (D := D) (ci := 8) (v := .ref wa3) (C := "WrongHole$Worn") (T := TX10) (N := 9) hx hb hts (iq_RX10 _) hown hK hP 1 rfl rfl 8 (by decide) (NN.f hN nq_1_115) (fun _ h9 => h9) rfl dX11_moves_46 ?_
          refine lv_iload hx hb dX11_moves_49 (lv_at hl 0 rfl) ?_
          have hi_562 : vp_in v_27 10 := Rg.in r_540 (by decide)
          refine va_iald hx hb hK hP 2 0 rfl rfl hi_562 dX11_moves_51 ?_
          refine lv_topi (fun x_563 e_564 => ?_)
          refine lv_iconst (v := (-1)) hx hb dX11_moves_52 (by decide) ?_
          refine w_cut (σ := (Int32) × (Int32)) (fun x9 H locs ls => match x9 with | (v_575, v_576) => H = s.heap ∧ locs = [] ∧ va_P D vwCl [(ox, .inr (9, [.ref ht, .ref hq, .ref og, .int rc, .ref hw, .ref om, .ref hp, .ref ha, .ref hf, .ref hw0, va_rf qh, va_rf qo])), (hw, .inr (8, [.ref hl0, .int wk, .int wc, .int wx, .int wn, .ref wa0, .ref wa1, .ref wa2, .ref wa3])), (wa3, .inl ((cs 0), 10, .inl wf3)), (hl0, .inr (2, [.int lb, .int lh, .int lg, .int lw, .int lv, .int lbs, .int lti, .int lts, .int le, .int lk, .int la, .ref l0, .ref l1, .ref l2, .ref l3, .ref l4, .ref l5, .ref l6, .ref l7]))] H ∧ lv_has ls 5 [(4, .int v_27), (3, .int v_575), (2, .int v_576), (0, .ref ox), (1, .int a)]) 80 (fun x9 => match x9 with | (v_575, v_576) => []) ?_ (fun hj_577 => ?_)
          · rintro ⟨v_575, v_576⟩ H locs ls ⟨hHe, hlc, hP, hl⟩
            obtain ⟨x_578, e_579⟩ : ∃ z : Int32, z = v_27 + Int32.ofInt 1 := ⟨_, rfl⟩
            have r_580 : Rg 1 10 x_578 := Rg.add e_579 r_540 (Rg.c (c := Int32.ofInt 1) (k := 1) rfl) (by decide)
            refine lv_iinc (v := x_578) (lv' := [(4, .int x_578), (3, .int v_575), (2, .int v_576), (0, .ref ox), (1, .int a)]) hx hb dX11_moves_80 hl (k := 0) rfl (e_579.symm) (by decide) rfl (fun ls hl => ?_)
            refine lv_goto (tgt := 20) hx hb dX11_moves_83 (by decide) ?_
            exact ih_536 (x_578, v_575, v_576) _ _ _ ⟨(Rg.wk (lo2 := 0) (hi2 := 10) r_580 (by decide)), hHe, hlc, hP, lv_sub hl [0, 1, 2, 3, 4] rfl⟩ (ms_up e_579 r_540 (Rg.c (c := Int32.ofInt 1) (k := 1) rfl) (by decide))
          · refine lv_icmp_ne (tgt := 62) hx hb dX11_moves_53 (by decide) (fun c_565 => ?_) (fun c_565 => ?_)
            · refine lv_aload_n hx hb dX11_moves_62 rfl (lv_at hl 3 rfl) ?_
              refine va_get (D := D) (ci := 9) (v := .ref hw) (C := "WrongHole") (T := TX11) (N := 12) hx hb hts (iq_RX11 _) hown hK hP 0 rfl rfl 4 (by decide) (hT _ qq_1_206) (fun _ h9 => h9) rfl dX11_moves_63 ?_
              refine va_getN (D := D) (ci := 8) (v := .ref wa3) (C := "WrongHole$Worn") (T := TX10) (N := 9) hx hb hts (iq_RX10 _) hown hK hP 1 rfl rfl 8 (by decide) (NN.f hN nq_1_115) (fun _ h9 => h9) rfl dX11_moves_66 ?_
              refine lv_iload hx hb dX11_moves_69 (lv_at hl 0 rfl) ?_
              have hi_581 : vp_in v_27 10 := Rg.in r_540 (by decide)
              refine va_iald hx hb hK hP 2 0 rfl rfl hi_581 dX11_moves_71 ?_
              refine lv_topi (fun x_582 e_583 => ?_)
              refine lv_iload hx hb dX11_moves_72 (lv_at hl 0 rfl) ?_
              refine lv_icmp_eq (tgt := 80) hx hb dX11_moves_74 (by decide) (fun c_584 => ?_) (fun c_584 => ?_)
              · have r_585 : Rg 0 9 x_582 := Rg.eq_l c_584 (Rg.top x_582) r_540 (by decide)
                exact hj_577 (v_28, v_29) _ _ _ ⟨hHe, hlc, hP, lv_sub hl [0, 1, 2, 3, 4] rfl⟩
              · obtain ⟨x_586, e_587⟩ : ∃ z : Int32, z = v_29 + Int32.ofInt 1 := ⟨_, rfl⟩
                refine lv_iinc (v := x_586) (lv' := [(2, .int x_586), (4, .int v_27), (3, .int v_28), (0, .ref ox), (1, .int a)]) hx hb dX11_moves_77 hl (k := 2) rfl (e_587.symm) (by decide) rfl (fun ls hl => ?_)
                exact hj_577 (v_28, x_586) _ _ _ ⟨hHe, hlc, hP, lv_sub hl [1, 2, 0, 3, 4] rfl⟩
            · have r_566 : Rg (-1) (-1) x_563 := Rg.eq_l c_565 (Rg.top x_563) (Rg.c (c := (-1)) (k := (-1)) rfl) (by decide)
              obtain ⟨x_588, e_589⟩ : ∃ z : Int32, z = v_28 + Int32.ofInt 1 := ⟨_, rfl⟩
              refine lv_iinc (v := x_588) (lv' := [(3, .int x_588), (4, .int v_27), (2, .int v_29), (0, .ref ox), (1, .int a)]) hx hb dX11_moves_56 hl (k := 1) rfl (e_589.symm) (by decide) rfl (fun ls hl => ?_)
              refine lv_goto (tgt := 80) hx hb dX11_moves_59 (by decide) ?_
              exact hj_577 (x_588, v_29) _ _ _ ⟨hHe, hlc, hP, lv_sub hl [1, 0, 2, 3, 4] rfl⟩
        · have r_561 : Rg 1 2147483647 x_557 := Rg.le_r (nlt_le c_559) r_5 (Rg.top x_557) (by decide)
          refine lv_iconst (v := (-1)) hx hb dX11_moves_40 (by decide) ?_
          exact W.iret (v := (-1)) hx hb hr (fun t9 ht9 hW9 => ⟨⟨_, rfl, _, rfl⟩, ht9.trans hHe⟩) (fun _ h9 => by rw [hlc] at h9; exact absurd h9 List.not_mem_nil) dX11_moves_41
    · have r_6 : Rg 11 2147483647 a := Rg.lt_r (nle_lt c_4) (Rg.c (c := 10) (k := 10) rfl) r_3 (by decide)
      refine lv_iconst (v := (-1)) hx hb dX11_moves_11 (by decide) ?_
      exact W.iret (v := (-1)) hx hb hr (fun t9 ht9 hW9 => ⟨⟨_, rfl, _, rfl⟩, ht9.trans hHe⟩) (fun _ h9 => by rw [hlc] at h9; exact absurd h9 List.not_mem_nil) dX11_moves_12
