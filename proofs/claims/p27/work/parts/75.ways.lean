theorem dX12_isSo_0 : decode cX12_isSo 0 = .ok (.aload_n 0, 1) := by decide +kernel
theorem dX12_isSo_1 : decode cX12_isSo 1 = .ok (.getfield 39, 3) := by decide +kernel
theorem dX12_isSo_4 : decode cX12_isSo 4 = .ok (.bipush 102, 2) := by decide +kernel
theorem dX12_isSo_6 : decode cX12_isSo 6 = .ok (.iconst 3, 1) := by decide +kernel
theorem dX12_isSo_7 : decode cX12_isSo 7 = .ok (.iload_n 2, 1) := by decide +kernel
theorem dX12_isSo_8 : decode cX12_isSo 8 = .ok (.imul, 1) := by decide +kernel
theorem dX12_isSo_9 : decode cX12_isSo 9 = .ok (.iadd, 1) := by decide +kernel
theorem dX12_isSo_10 : decode cX12_isSo 10 = .ok (.iconst 1, 1) := by decide +kernel
theorem dX12_isSo_11 : decode cX12_isSo 11 = .ok (.iadd, 1) := by decide +kernel
theorem dX12_isSo_12 : decode cX12_isSo 12 = .ok (.iaload, 1) := by decide +kernel
theorem dX12_isSo_13 : decode cX12_isSo 13 = .ok (.istore_n 3, 1) := by decide +kernel
theorem dX12_isSo_14 : decode cX12_isSo 14 = .ok (.aload_n 0, 1) := by decide +kernel
theorem dX12_isSo_15 : decode cX12_isSo 15 = .ok (.getfield 39, 3) := by decide +kernel
theorem dX12_isSo_18 : decode cX12_isSo 18 = .ok (.bipush 102, 2) := by decide +kernel
theorem dX12_isSo_20 : decode cX12_isSo 20 = .ok (.iconst 3, 1) := by decide +kernel
theorem dX12_isSo_21 : decode cX12_isSo 21 = .ok (.iload_n 2, 1) := by decide +kernel
theorem dX12_isSo_22 : decode cX12_isSo 22 = .ok (.imul, 1) := by decide +kernel
theorem dX12_isSo_23 : decode cX12_isSo 23 = .ok (.iadd, 1) := by decide +kernel
theorem dX12_isSo_24 : decode cX12_isSo 24 = .ok (.iconst 2, 1) := by decide +kernel
theorem dX12_isSo_25 : decode cX12_isSo 25 = .ok (.iadd, 1) := by decide +kernel
theorem dX12_isSo_26 : decode cX12_isSo 26 = .ok (.iaload, 1) := by decide +kernel
theorem dX12_isSo_27 : decode cX12_isSo 27 = .ok (.istore 4, 2) := by decide +kernel
theorem dX12_isSo_29 : decode cX12_isSo 29 = .ok (.iload_n 1, 1) := by decide +kernel
theorem dX12_isSo_30 : decode cX12_isSo 30 = .ok (.invokestatic 338, 3) := by decide +kernel
theorem dX12_isSo_33 : decode cX12_isSo 33 = .ok (.iload_n 3, 1) := by decide +kernel
theorem dX12_isSo_34 : decode cX12_isSo 34 = .ok (.invokestatic 332, 3) := by decide +kernel
theorem dX12_isSo_37 : decode cX12_isSo 37 = .ok (.ifCond .eq 29, 3) := by decide +kernel
theorem dX12_isSo_67 : decode cX12_isSo 67 = .ok (.istore 5, 2) := by decide +kernel
theorem dX12_isSo_69 : decode cX12_isSo 69 = .ok (.aload_n 0, 1) := by decide +kernel
theorem dX12_isSo_70 : decode cX12_isSo 70 = .ok (.getfield 39, 3) := by decide +kernel
theorem dX12_isSo_73 : decode cX12_isSo 73 = .ok (.bipush 102, 2) := by decide +kernel
theorem dX12_isSo_75 : decode cX12_isSo 75 = .ok (.iconst 3, 1) := by decide +kernel
theorem dX12_isSo_76 : decode cX12_isSo 76 = .ok (.iload_n 2, 1) := by decide +kernel
theorem dX12_isSo_77 : decode cX12_isSo 77 = .ok (.imul, 1) := by decide +kernel
theorem dX12_isSo_78 : decode cX12_isSo 78 = .ok (.iadd, 1) := by decide +kernel
theorem dX12_isSo_79 : decode cX12_isSo 79 = .ok (.iaload, 1) := by decide +kernel
theorem dX12_isSo_80 : decode cX12_isSo 80 = .ok (.tableswitch 93 0 4 #[36, 45, 62, 72, 90], 36) := by decide +kernel
theorem dX12_isSo_173 : decode cX12_isSo 173 = .ok (.iload 5, 2) := by decide +kernel
theorem dX12_isSo_175 : decode cX12_isSo 175 = .ok (.ifCond .ne 7, 3) := by decide +kernel
theorem dX12_isSo_182 : decode cX12_isSo 182 = .ok (.iconst 0, 1) := by decide +kernel
theorem dX12_isSo_183 : decode cX12_isSo 183 = .ok (.ireturn, 1) := by decide +kernel
theorem dX12_isSo_178 : decode cX12_isSo 178 = .ok (.iconst 1, 1) := by decide +kernel
theorem dX12_isSo_179 : decode cX12_isSo 179 = .ok (.goto 4, 3) := by decide +kernel
theorem dX12_isSo_116 : decode cX12_isSo 116 = .ok (.iload_n 1, 1) := by decide +kernel
theorem dX12_isSo_117 : decode cX12_isSo 117 = .ok (.invokestatic 338, 3) := by decide +kernel
theorem dX12_isSo_120 : decode cX12_isSo 120 = .ok (.iload_n 3, 1) := by decide +kernel
theorem dX12_isSo_121 : decode cX12_isSo 121 = .ok (.invokestatic 332, 3) := by decide +kernel
theorem dX12_isSo_124 : decode cX12_isSo 124 = .ok (.ireturn, 1) := by decide +kernel
theorem dX12_isSo_125 : decode cX12_isSo 125 = .ok (.iload_n 1, 1) := by decide +kernel
theorem dX12_isSo_126 : decode cX12_isSo 126 = .ok (.invokestatic 338, 3) := by decide +kernel
theorem dX12_isSo_129 : decode cX12_isSo 129 = .ok (.iload_n 3, 1) := by decide +kernel
theorem dX12_isSo_130 : decode cX12_isSo 130 = .ok (.invokestatic 332, 3) := by decide +kernel
theorem dX12_isSo_133 : decode cX12_isSo 133 = .ok (.ifCond .ne 7, 3) := by decide +kernel
theorem dX12_isSo_140 : decode cX12_isSo 140 = .ok (.iconst 0, 1) := by decide +kernel
theorem dX12_isSo_141 : decode cX12_isSo 141 = .ok (.ireturn, 1) := by decide +kernel
theorem dX12_isSo_136 : decode cX12_isSo 136 = .ok (.iconst 1, 1) := by decide +kernel
theorem dX12_isSo_137 : decode cX12_isSo 137 = .ok (.goto 4, 3) := by decide +kernel
theorem dX12_isSo_142 : decode cX12_isSo 142 = .ok (.iload_n 1, 1) := by decide +kernel
theorem dX12_isSo_143 : decode cX12_isSo 143 = .ok (.invokestatic 335, 3) := by decide +kernel
theorem dX12_isSo_146 : decode cX12_isSo 146 = .ok (.iload 4, 2) := by decide +kernel
theorem dX12_isSo_148 : decode cX12_isSo 148 = .ok (.invokestatic 332, 3) := by decide +kernel
theorem dX12_isSo_151 : decode cX12_isSo 151 = .ok (.ireturn, 1) := by decide +kernel
theorem dX12_isSo_152 : decode cX12_isSo 152 = .ok (.iload_n 1, 1) := by decide +kernel
theorem dX12_isSo_153 : decode cX12_isSo 153 = .ok (.invokestatic 335, 3) := by decide +kernel
theorem dX12_isSo_156 : decode cX12_isSo 156 = .ok (.iload 4, 2) := by decide +kernel
theorem dX12_isSo_158 : decode cX12_isSo 158 = .ok (.invokestatic 332, 3) := by decide +kernel
theorem dX12_isSo_161 : decode cX12_isSo 161 = .ok (.ifCond .ne 7, 3) := by decide +kernel
theorem dX12_isSo_168 : decode cX12_isSo 168 = .ok (.iconst 0, 1) := by decide +kernel
theorem dX12_isSo_169 : decode cX12_isSo 169 = .ok (.ireturn, 1) := by decide +kernel
theorem dX12_isSo_164 : decode cX12_isSo 164 = .ok (.iconst 1, 1) := by decide +kernel
theorem dX12_isSo_165 : decode cX12_isSo 165 = .ok (.goto 4, 3) := by decide +kernel
theorem dX12_isSo_170 : decode cX12_isSo 170 = .ok (.iload 5, 2) := by decide +kernel
theorem dX12_isSo_172 : decode cX12_isSo 172 = .ok (.ireturn, 1) := by decide +kernel
theorem dX12_isSo_66 : decode cX12_isSo 66 = .ok (.iconst 0, 1) := by decide +kernel
theorem dX12_isSo_40 : decode cX12_isSo 40 = .ok (.iload_n 1, 1) := by decide +kernel
theorem dX12_isSo_41 : decode cX12_isSo 41 = .ok (.invokestatic 335, 3) := by decide +kernel
theorem dX12_isSo_44 : decode cX12_isSo 44 = .ok (.iload 4, 2) := by decide +kernel
theorem dX12_isSo_46 : decode cX12_isSo 46 = .ok (.invokestatic 332, 3) := by decide +kernel
theorem dX12_isSo_49 : decode cX12_isSo 49 = .ok (.ifCond .eq 17, 3) := by decide +kernel
theorem dX12_isSo_52 : decode cX12_isSo 52 = .ok (.iload_n 1, 1) := by decide +kernel
theorem dX12_isSo_53 : decode cX12_isSo 53 = .ok (.iload_n 3, 1) := by decide +kernel
theorem dX12_isSo_54 : decode cX12_isSo 54 = .ok (.invokestatic 347, 3) := by decide +kernel
theorem dX12_isSo_57 : decode cX12_isSo 57 = .ok (.iload 4, 2) := by decide +kernel
theorem dX12_isSo_59 : decode cX12_isSo 59 = .ok (.if_icmp .ne 7, 3) := by decide +kernel
theorem dX12_isSo_62 : decode cX12_isSo 62 = .ok (.iconst 1, 1) := by decide +kernel
theorem dX12_isSo_63 : decode cX12_isSo 63 = .ok (.goto 4, 3) := by decide +kernel
set_option maxHeartbeats 4000000 in
set_option maxRecDepth 100000 in
theorem c_M_isSo (l : Launch) (D : va_G) (cs : Nat → ClassId) (m0 : Nat) (mtp : Nat) (sta : Int32) (sru : Int32) (msg : Nat) (mln : Nat) (mcl : Nat) (mcs : Nat) (mrd : Nat) (snx : Int32) (swr : Int32) (snu : Int32) (ste : Int32) (sma : Int32) (sde : Int32) (sli : Int32) (mop : Nat) (sod : Int32) (mst : Nat) (sto : Int32) (mwd : Nat) (msd : Nat) (sx_ : Int32) (mws : Nat) (sun : Int32) (mfr : Nat) (mqu : Nat) (miw : Nat) (sfi : Int32) (swa : Int32) (sdx : Int64) (mim : Nat) (mix : Nat) (mmd : Nat) (gsd : Nat → Int32) (a : Int32) (b : Int32) (hsi : SI gsd) (hbk : BK a) (r_b : Rg 0 9 b) : Met l yX12_isSo (Cond.code yX12_isSo cX12_isSo 6 (some .boolean) :: TB) (RM 3 0 0) (va_Pc [.ref m0, .int a, .int b] (PRR D cs [(m0, .inr (10, (.ref mtp :: .int sta :: .int sru :: .ref msg :: .ref mln :: .ref mcl :: .ref mcs :: .ref mrd :: .int snx :: .int swr :: .int snu :: .int ste :: .int sma :: .int sde :: .int sli :: .ref mop :: .int sod :: .ref mst :: .int sto :: .ref mwd :: .ref msd :: .int sx_ :: .ref mws :: .int sun :: .ref mfr :: .ref mqu :: .ref miw :: .int sfi :: .int swa :: .long sdx :: .ref mim :: .ref mix :: .ref mmd :: []))), (msd, .inl ((cs 0), 133, .inl gsd))])) (QP (fun v => ∃ x : Int32, v = .int x ∧ Rg 0 1 x)) 0 0 (fun _ => False) := by
  refine MER (y := yX12_isSo) (cc := cX12_isSo) (maxL := 6) (ret := (some .boolean)) (d := 3) (D := D) (cs := cs) (ws := [(m0, .inr (10, (.ref mtp :: .int sta :: .int sru :: .ref msg :: .ref mln :: .ref mcl :: .ref mcs :: .ref mrd :: .int snx :: .int swr :: .int snu :: .int ste :: .int sma :: .int sde :: .int sli :: .ref mop :: .int sod :: .ref mst :: .int sto :: .ref mwd :: .ref msd :: .int sx_ :: .ref mws :: .int sun :: .ref mfr :: .ref mqu :: .ref miw :: .int sfi :: .int swa :: .long sdx :: .ref mim :: .ref mix :: .ref mmd :: []))), (msd, .inl ((cs 0), 133, .inl gsd))]) (av := [.ref m0, .int a, .int b]) (Qc := QP (fun v => ∃ x : Int32, v = .int x ∧ Rg 0 1 x)) (by decide) (Nat.le_of_ble_eq_true rfl) ?_
  intro p e s m below meth c ls H hHe hx hb hr hml hown hts hlocks hP hK hN hl
  obtain ⟨locs, hlc⟩ : ∃ z : List Loc, z = [] := ⟨_, rfl⟩
  rw [← hlc]
  have hown : s.vm.findClass "WrongHoleModel" = some m.cls := hown
  have hT : ∀ w ∈ TB, w.before ([.ref m0, .int a, .int b] : List Value).toArray s = true := fun w h => hts w (List.mem_cons_of_mem _ h)
  have hl : lv_has ls 6 [(0, .ref m0), (1, .int a), (2, .int b)] := hl
  have hP : va_P D vwCl [(m0, .inr (10, (.ref mtp :: .int sta :: .int sru :: .ref msg :: .ref mln :: .ref mcl :: .ref mcs :: .ref mrd :: .int snx :: .int swr :: .int snu :: .int ste :: .int sma :: .int sde :: .int sli :: .ref mop :: .int sod :: .ref mst :: .int sto :: .ref mwd :: .ref msd :: .int sx_ :: .ref mws :: .int sun :: .ref mfr :: .ref mqu :: .ref miw :: .int sfi :: .int swa :: .long sdx :: .ref mim :: .ref mix :: .ref mmd :: []))), (msd, .inl ((cs 0), 133, .inl gsd))] H := hP
  refine lv_aload_n hx hb dX12_isSo_0 rfl (lv_at hl 0 rfl) ?_
  refine va_get (D := D) (ci := 10) (v := .ref msd) (C := "WrongHoleModel") (T := TX12) (N := 33) hx hb hts (iq_RX12 _) hown hK hP 0 rfl rfl 20 (by decide) (hT _ qq_5_172) (fun _ h9 => h9) rfl dX12_isSo_1 ?_
  refine lv_bipush (v := 102) hx hb dX12_isSo_4 (by decide) ?_
  refine lv_iconst (v := 3) hx hb dX12_isSo_6 (by decide) ?_
  refine lv_iload_n hx hb dX12_isSo_7 rfl (lv_at hl 2 rfl) ?_
  refine lv_imul hx hb dX12_isSo_8 ?_
  refine lv_topi (fun x_1 e_2 => ?_)
  have r_3 : Rg 0 27 x_1 := Rg.mul (ha := 3) (hb := 9) e_2 (Rg.wk (lo2 := 0) (hi2 := 3) (Rg.c (c := 3) (k := 3) rfl) (by decide)) r_b (by decide)
  refine lv_iadd hx hb dX12_isSo_9 ?_
  refine lv_topi (fun x_4 e_5 => ?_)
  have r_6 : Rg 102 129 x_4 := Rg.add e_5 (Rg.c (c := 102) (k := 102) rfl) r_3 (by decide)
  refine lv_iconst (v := 1) hx hb dX12_isSo_10 (by decide) ?_
  refine lv_iadd hx hb dX12_isSo_11 ?_
  refine lv_topi (fun x_7 e_8 => ?_)
  have r_9 : Rg 103 130 x_7 := Rg.add e_8 r_6 (Rg.c (c := 1) (k := 1) rfl) (by decide)
  have hi_10 : vp_in x_7 133 := Rg.in r_9 (by decide)
  refine va_iald hx hb hK hP 1 0 rfl rfl hi_10 dX12_isSo_12 ?_
  refine lv_topi (fun x_11 e_12 => ?_)
  have r_13 : Rg 0 7 x_11 := Rg.of e_12 (hsi.lc r_9 (by decide))
  refine lv_istore_n (lv' := [(3, .int x_11), (0, .ref m0), (1, .int a), (2, .int b)]) hx hb dX12_isSo_13 rfl hl (by decide) rfl (fun ls hl => ?_)
  refine lv_aload_n hx hb dX12_isSo_14 rfl (lv_at hl 1 rfl) ?_
  refine va_get (D := D) (ci := 10) (v := .ref msd) (C := "WrongHoleModel") (T := TX12) (N := 33) hx hb hts (iq_RX12 _) hown hK hP 0 rfl rfl 20 (by decide) (hT _ qq_5_172) (fun _ h9 => h9) rfl dX12_isSo_15 ?_
  refine lv_bipush (v := 102) hx hb dX12_isSo_18 (by decide) ?_
  refine lv_iconst (v := 3) hx hb dX12_isSo_20 (by decide) ?_
  refine lv_iload_n hx hb dX12_isSo_21 rfl (lv_at hl 3 rfl) ?_
  refine lv_imul hx hb dX12_isSo_22 ?_
  refine lv_topi (fun x_14 e_15 => ?_)
  have r_16 : Rg 0 27 x_14 := Rg.mul (ha := 3) (hb := 9) e_15 (Rg.wk (lo2 := 0) (hi2 := 3) (Rg.c (c := 3) (k := 3) rfl) (by decide)) r_b (by decide)
  refine lv_iadd hx hb dX12_isSo_23 ?_
  refine lv_topi (fun x_17 e_18 => ?_)
  have r_19 : Rg 102 129 x_17 := Rg.add e_18 (Rg.c (c := 102) (k := 102) rfl) r_16 (by decide)
  refine lv_iconst (v := 2) hx hb dX12_isSo_24 (by decide) ?_
  refine lv_iadd hx hb dX12_isSo_25 ?_
  refine lv_topi (fun x_20 e_21 => ?_)
  have r_22 : Rg 104 131 x_20 := Rg.add e_21 r_19 (Rg.c (c := 2) (k := 2) rfl) (by decide)
  have hi_23 : vp_in x_20 133 := Rg.in r_22 (by decide)
  refine va_iald hx hb hK hP 1 0 rfl rfl hi_23 dX12_isSo_26 ?_
  refine lv_topi (fun x_24 e_25 => ?_)
  have r_26 : Rg 0 7 x_24 := Rg.of e_25 (hsi.lc r_22 (by decide))
  refine lv_istore (lv' := [(4, .int x_24), (3, .int x_11), (0, .ref m0), (1, .int a), (2, .int b)]) hx hb dX12_isSo_27 hl (by decide) rfl (fun ls hl => ?_)
  refine lv_iload_n hx hb dX12_isSo_29 rfl (lv_at hl 3 rfl) ?_
  have hPc := va_P.sub (ws' := []) hP [] rfl
  refine cl_V (W.runS (As := [.int a]) (rest := []) ⟨hx, hb, hml, hown, hts⟩ (c_M_inOf l D cs a hbk.1) ⟨callB_of 1 hts (gd_C qq_7_58) rfl rfl rfl (hT _ qq_1_9) (hT _ qq_7_56) (by decide +kernel) (rm_R rfl rfl), (hT _ qq_7_57)⟩ (pq_S hPc hK hN) rfl rfl hl.1 rfl (lv_room (Nat.le_of_ble_eq_true rfl)) dX12_isSo_30 ⟨Nat.le_of_ble_eq_true rfl, Nat.le_of_ble_eq_true rfl⟩) ?_
  refine lv_topi (fun x_27 e_28 => ?_)
  have r_29 : Rg 0 255 x_27 := Rg.of e_28 (rg_held _)
  refine lv_iload_n hx hb dX12_isSo_33 rfl (lv_at hl 1 rfl) ?_
  have hPc := va_P.sub (ws' := []) hP [] rfl
  refine cl_V (W.runS (As := [.int x_27, .int x_11]) (rest := []) ⟨hx, hb, hml, hown, hts⟩ (c_M_isOf l D cs x_27 x_11 r_29 r_13) ⟨callB_of 2 hts (gd_C qq_7_72) rfl rfl rfl (hT _ qq_1_9) (hT _ qq_7_70) (by decide +kernel) (rm_R rfl rfl), (hT _ qq_7_71)⟩ (pq_S hPc hK hN) rfl rfl hl.1 rfl (lv_room (Nat.le_of_ble_eq_true rfl)) dX12_isSo_34 ⟨Nat.le_of_ble_eq_true rfl, Nat.le_of_ble_eq_true rfl⟩) ?_
  refine lv_topi (fun x_30 e_31 => ?_)
  have r_32 : Rg 0 1 x_30 := Rg.of e_31 (bt_rg _ _)
  refine w_cut (σ := (Int32)) (fun (v_49 : Int32) H locs ls => Rg 0 1 v_49 ∧ H = s.heap ∧ locs = [] ∧ va_P D vwCl [(m0, .inr (10, (.ref mtp :: .int sta :: .int sru :: .ref msg :: .ref mln :: .ref mcl :: .ref mcs :: .ref mrd :: .int snx :: .int swr :: .int snu :: .int ste :: .int sma :: .int sde :: .int sli :: .ref mop :: .int sod :: .ref mst :: .int sto :: .ref mwd :: .ref msd :: .int sx_ :: .ref mws :: .int sun :: .ref mfr :: .ref mqu :: .ref miw :: .int sfi :: .int swa :: .long sdx :: .ref mim :: .ref mix :: .ref mmd :: []))), (msd, .inl ((cs 0), 133, .inl gsd))] H ∧ lv_has ls 6 [(4, .int x_24), (3, .int x_11), (0, .ref m0), (1, .int a), (2, .int b)]) 67 (fun (v_49 : Int32) => [.int v_49]) ?_ (fun hj_50 => ?_)
  · rintro v_49 H locs ls ⟨r_51, hHe, hlc, hP, hl⟩
    refine lv_istore (lv' := [(5, .int v_49), (4, .int x_24), (3, .int x_11), (0, .ref m0), (1, .int a), (2, .int b)]) hx hb dX12_isSo_67 hl (by decide) rfl (fun ls hl => ?_)
    refine lv_aload_n hx hb dX12_isSo_69 rfl (lv_at hl 3 rfl) ?_
    refine va_get (D := D) (ci := 10) (v := .ref msd) (C := "WrongHoleModel") (T := TX12) (N := 33) hx hb hts (iq_RX12 _) hown hK hP 0 rfl rfl 20 (by decide) (hT _ qq_5_172) (fun _ h9 => h9) rfl dX12_isSo_70 ?_
    refine lv_bipush (v := 102) hx hb dX12_isSo_73 (by decide) ?_
    refine lv_iconst (v := 3) hx hb dX12_isSo_75 (by decide) ?_
    refine lv_iload_n hx hb dX12_isSo_76 rfl (lv_at hl 5 rfl) ?_
    refine lv_imul hx hb dX12_isSo_77 ?_
    refine lv_topi (fun x_52 e_53 => ?_)
    have r_54 : Rg 0 27 x_52 := Rg.mul (ha := 3) (hb := 9) e_53 (Rg.wk (lo2 := 0) (hi2 := 3) (Rg.c (c := 3) (k := 3) rfl) (by decide)) r_b (by decide)
    refine lv_iadd hx hb dX12_isSo_78 ?_
    refine lv_topi (fun x_55 e_56 => ?_)
    have r_57 : Rg 102 129 x_55 := Rg.add e_56 (Rg.c (c := 102) (k := 102) rfl) r_54 (by decide)
    have hi_58 : vp_in x_55 133 := Rg.in r_57 (by decide)
    refine va_iald hx hb hK hP 1 0 rfl rfl hi_58 dX12_isSo_79 ?_
    refine lv_topi (fun x_59 e_60 => ?_)
    have r_61 : Rg 0 7 x_59 := Rg.of e_60 (hsi.lc r_57 (by decide))
    rcases sw_0_4 x_59 with c_62 | c_62 | c_62 | c_62 | c_62 | c_62
    · refine lv_tableOut (tgt := 173) hx hb dX12_isSo_80 c_62 (by decide) ?_
      refine lv_iload hx hb dX12_isSo_173 (lv_at hl 0 rfl) ?_
      refine lv_if_ne (tgt := 182) hx hb dX12_isSo_175 (by decide) (fun c_68 => ?_) (fun c_68 => ?_)
      · have r_69 : Rg 1 1 v_49 := Rg.ne c_68 r_51 (Rg.c (c := 0) (k := 0) rfl) (by decide)
        refine lv_iconst (v := 0) hx hb dX12_isSo_182 (by decide) ?_
        exact W.zret (v := 0) (ty := .boolean) hx hb hr rfl (fun t9 ht9 hW9 => ⟨⟨_, rfl, _, rfl, (Rg.wk (lo2 := 0) (hi2 := 1) (Rg.c (c := 0) (k := 0) rfl) (by decide))⟩, ht9.trans hHe⟩) (fun _ h9 => by rw [hlc] at h9; exact absurd h9 List.not_mem_nil) dX12_isSo_183
      · have r_70 : Rg 0 0 v_49 := Rg.eq_l c_68 r_51 (Rg.c (c := 0) (k := 0) rfl) (by decide)
        refine lv_iconst (v := 1) hx hb dX12_isSo_178 (by decide) ?_
        refine lv_goto (tgt := 183) hx hb dX12_isSo_179 (by decide) ?_
        exact W.zret (v := 1) (ty := .boolean) hx hb hr rfl (fun t9 ht9 hW9 => ⟨⟨_, rfl, _, rfl, (Rg.wk (lo2 := 0) (hi2 := 1) (Rg.c (c := 1) (k := 1) rfl) (by decide))⟩, ht9.trans hHe⟩) (fun _ h9 => by rw [hlc] at h9; exact absurd h9 List.not_mem_nil) dX12_isSo_183
    · refine tc_i 0 c_62 ?_
      have r_63 : Rg 0 0 x_59 := Rg.of c_62 (Rg.c rfl)
      refine lv_tableIn (tgt := 116) hx hb dX12_isSo_80 (by decide) (by decide) rfl (by decide) ?_
      refine lv_iload_n hx hb dX12_isSo_116 rfl (lv_at hl 4 rfl) ?_
      have hPc := va_P.sub (ws' := []) hP [] rfl
      refine cl_V (W.runS (As := [.int a]) (rest := []) ⟨hx, hb, hml, hown, hts⟩ (c_M_inOf l D cs a hbk.1) ⟨callB_of 1 hts (gd_C qq_7_58) rfl rfl rfl (hT _ qq_1_9) (hT _ qq_7_56) (by decide +kernel) (rm_R rfl rfl), (hT _ qq_7_57)⟩ (pq_S hPc hK hN) rfl rfl hl.1 rfl (lv_room (Nat.le_of_ble_eq_true rfl)) dX12_isSo_117 ⟨Nat.le_of_ble_eq_true rfl, Nat.le_of_ble_eq_true rfl⟩) ?_
      refine lv_topi (fun x_71 e_72 => ?_)
      have r_73 : Rg 0 255 x_71 := Rg.of e_72 (rg_held _)
      refine lv_iload_n hx hb dX12_isSo_120 rfl (lv_at hl 2 rfl) ?_
      have hPc := va_P.sub (ws' := []) hP [] rfl
      refine cl_V (W.runS (As := [.int x_71, .int x_11]) (rest := []) ⟨hx, hb, hml, hown, hts⟩ (c_M_isOf l D cs x_71 x_11 r_73 r_13) ⟨callB_of 2 hts (gd_C qq_7_72) rfl rfl rfl (hT _ qq_1_9) (hT _ qq_7_70) (by decide +kernel) (rm_R rfl rfl), (hT _ qq_7_71)⟩ (pq_S hPc hK hN) rfl rfl hl.1 rfl (lv_room (Nat.le_of_ble_eq_true rfl)) dX12_isSo_121 ⟨Nat.le_of_ble_eq_true rfl, Nat.le_of_ble_eq_true rfl⟩) ?_
      refine lv_topi (fun x_74 e_75 => ?_)
      have r_76 : Rg 0 1 x_74 := Rg.of e_75 (bt_rg _ _)
      exact W.zret (v := x_74) (ty := .boolean) hx hb hr (nar_b r_76) (fun t9 ht9 hW9 => ⟨⟨_, rfl, _, rfl, r_76⟩, ht9.trans hHe⟩) (fun _ h9 => by rw [hlc] at h9; exact absurd h9 List.not_mem_nil) dX12_isSo_124
    · refine tc_i 1 c_62 ?_
      have r_64 : Rg 1 1 x_59 := Rg.of c_62 (Rg.c rfl)
      refine lv_tableIn (tgt := 125) hx hb dX12_isSo_80 (by decide) (by decide) rfl (by decide) ?_
      refine lv_iload_n hx hb dX12_isSo_125 rfl (lv_at hl 4 rfl) ?_
      have hPc := va_P.sub (ws' := []) hP [] rfl
      refine cl_V (W.runS (As := [.int a]) (rest := []) ⟨hx, hb, hml, hown, hts⟩ (c_M_inOf l D cs a hbk.1) ⟨callB_of 1 hts (gd_C qq_7_58) rfl rfl rfl (hT _ qq_1_9) (hT _ qq_7_56) (by decide +kernel) (rm_R rfl rfl), (hT _ qq_7_57)⟩ (pq_S hPc hK hN) rfl rfl hl.1 rfl (lv_room (Nat.le_of_ble_eq_true rfl)) dX12_isSo_126 ⟨Nat.le_of_ble_eq_true rfl, Nat.le_of_ble_eq_true rfl⟩) ?_
      refine lv_topi (fun x_77 e_78 => ?_)
      have r_79 : Rg 0 255 x_77 := Rg.of e_78 (rg_held _)
      refine lv_iload_n hx hb dX12_isSo_129 rfl (lv_at hl 2 rfl) ?_
      have hPc := va_P.sub (ws' := []) hP [] rfl
      refine cl_V (W.runS (As := [.int x_77, .int x_11]) (rest := []) ⟨hx, hb, hml, hown, hts⟩ (c_M_isOf l D cs x_77 x_11 r_79 r_13) ⟨callB_of 2 hts (gd_C qq_7_72) rfl rfl rfl (hT _ qq_1_9) (hT _ qq_7_70) (by decide +kernel) (rm_R rfl rfl), (hT _ qq_7_71)⟩ (pq_S hPc hK hN) rfl rfl hl.1 rfl (lv_room (Nat.le_of_ble_eq_true rfl)) dX12_isSo_130 ⟨Nat.le_of_ble_eq_true rfl, Nat.le_of_ble_eq_true rfl⟩) ?_
      refine lv_topi (fun x_80 e_81 => ?_)
      have r_82 : Rg 0 1 x_80 := Rg.of e_81 (bt_rg _ _)
      refine lv_if_ne (tgt := 140) hx hb dX12_isSo_133 (by decide) (fun c_83 => ?_) (fun c_83 => ?_)
      · have r_84 : Rg 1 1 x_80 := Rg.ne c_83 r_82 (Rg.c (c := 0) (k := 0) rfl) (by decide)
        refine lv_iconst (v := 0) hx hb dX12_isSo_140 (by decide) ?_
        exact W.zret (v := 0) (ty := .boolean) hx hb hr rfl (fun t9 ht9 hW9 => ⟨⟨_, rfl, _, rfl, (Rg.wk (lo2 := 0) (hi2 := 1) (Rg.c (c := 0) (k := 0) rfl) (by decide))⟩, ht9.trans hHe⟩) (fun _ h9 => by rw [hlc] at h9; exact absurd h9 List.not_mem_nil) dX12_isSo_141
      · have r_85 : Rg 0 0 x_80 := Rg.eq_l c_83 r_82 (Rg.c (c := 0) (k := 0) rfl) (by decide)
        refine lv_iconst (v := 1) hx hb dX12_isSo_136 (by decide) ?_
        refine lv_goto (tgt := 141) hx hb dX12_isSo_137 (by decide) ?_
        exact W.zret (v := 1) (ty := .boolean) hx hb hr rfl (fun t9 ht9 hW9 => ⟨⟨_, rfl, _, rfl, (Rg.wk (lo2 := 0) (hi2 := 1) (Rg.c (c := 1) (k := 1) rfl) (by decide))⟩, ht9.trans hHe⟩) (fun _ h9 => by rw [hlc] at h9; exact absurd h9 List.not_mem_nil) dX12_isSo_141
    · refine tc_i 2 c_62 ?_
      have r_65 : Rg 2 2 x_59 := Rg.of c_62 (Rg.c rfl)
      refine lv_tableIn (tgt := 142) hx hb dX12_isSo_80 (by decide) (by decide) rfl (by decide) ?_
      refine lv_iload_n hx hb dX12_isSo_142 rfl (lv_at hl 4 rfl) ?_
      have hPc := va_P.sub (ws' := []) hP [] rfl
      refine cl_V (W.runS (As := [.int a]) (rest := []) ⟨hx, hb, hml, hown, hts⟩ (c_M_heldOf l D cs a hbk.1) ⟨callB_of 1 hts (gd_C qq_7_78) rfl rfl rfl (hT _ qq_1_9) (hT _ qq_7_76) (by decide +kernel) (rm_R rfl rfl), (hT _ qq_7_77)⟩ (pq_S hPc hK hN) rfl rfl hl.1 rfl (lv_room (Nat.le_of_ble_eq_true rfl)) dX12_isSo_143 ⟨Nat.le_of_ble_eq_true rfl, Nat.le_of_ble_eq_true rfl⟩) ?_
      refine lv_topi (fun x_86 e_87 => ?_)
      have r_88 : Rg 0 255 x_86 := Rg.of e_87 (rg_in hbk.1)
      refine lv_iload hx hb dX12_isSo_146 (lv_at hl 1 rfl) ?_
      have hPc := va_P.sub (ws' := []) hP [] rfl
      refine cl_V (W.runS (As := [.int x_86, .int x_24]) (rest := []) ⟨hx, hb, hml, hown, hts⟩ (c_M_isOf l D cs x_86 x_24 r_88 r_26) ⟨callB_of 2 hts (gd_C qq_7_72) rfl rfl rfl (hT _ qq_1_9) (hT _ qq_7_70) (by decide +kernel) (rm_R rfl rfl), (hT _ qq_7_71)⟩ (pq_S hPc hK hN) rfl rfl hl.1 rfl (lv_room (Nat.le_of_ble_eq_true rfl)) dX12_isSo_148 ⟨Nat.le_of_ble_eq_true rfl, Nat.le_of_ble_eq_true rfl⟩) ?_
      refine lv_topi (fun x_89 e_90 => ?_)
      have r_91 : Rg 0 1 x_89 := Rg.of e_90 (bt_rg _ _)
      exact W.zret (v := x_89) (ty := .boolean) hx hb hr (nar_b r_91) (fun t9 ht9 hW9 => ⟨⟨_, rfl, _, rfl, r_91⟩, ht9.trans hHe⟩) (fun _ h9 => by rw [hlc] at h9; exact absurd h9 List.not_mem_nil) dX12_isSo_151
    · refine tc_i 3 c_62 ?_
      have r_66 : Rg 3 3 x_59 := Rg.of c_62 (Rg.c rfl)
      refine lv_tableIn (tgt := 152) hx hb dX12_isSo_80 (by decide) (by decide) rfl (by decide) ?_
      refine lv_iload_n hx hb dX12_isSo_152 rfl (lv_at hl 4 rfl) ?_
      have hPc := va_P.sub (ws' := []) hP [] rfl
      refine cl_V (W.runS (As := [.int a]) (rest := []) ⟨hx, hb, hml, hown, hts⟩ (c_M_heldOf l D cs a hbk.1) ⟨callB_of 1 hts (gd_C qq_7_78) rfl rfl rfl (hT _ qq_1_9) (hT _ qq_7_76) (by decide +kernel) (rm_R rfl rfl), (hT _ qq_7_77)⟩ (pq_S hPc hK hN) rfl rfl hl.1 rfl (lv_room (Nat.le_of_ble_eq_true rfl)) dX12_isSo_153 ⟨Nat.le_of_ble_eq_true rfl, Nat.le_of_ble_eq_true rfl⟩) ?_
      refine lv_topi (fun x_92 e_93 => ?_)
      have r_94 : Rg 0 255 x_92 := Rg.of e_93 (rg_in hbk.1)
      refine lv_iload hx hb dX12_isSo_156 (lv_at hl 1 rfl) ?_
      have hPc := va_P.sub (ws' := []) hP [] rfl
      refine cl_V (W.runS (As := [.int x_92, .int x_24]) (rest := []) ⟨hx, hb, hml, hown, hts⟩ (c_M_isOf l D cs x_92 x_24 r_94 r_26) ⟨callB_of 2 hts (gd_C qq_7_72) rfl rfl rfl (hT _ qq_1_9) (hT _ qq_7_70) (by decide +kernel) (rm_R rfl rfl), (hT _ qq_7_71)⟩ (pq_S hPc hK hN) rfl rfl hl.1 rfl (lv_room (Nat.le_of_ble_eq_true rfl)) dX12_isSo_158 ⟨Nat.le_of_ble_eq_true rfl, Nat.le_of_ble_eq_true rfl⟩) ?_
      refine lv_topi (fun x_95 e_96 => ?_)
      have r_97 : Rg 0 1 x_95 := Rg.of e_96 (bt_rg _ _)
      refine lv_if_ne (tgt := 168) hx hb dX12_isSo_161 (by decide) (fun c_98 => ?_) (fun c_98 => ?_)
      · have r_99 : Rg 1 1 x_95 := Rg.ne c_98 r_97 (Rg.c (c := 0) (k := 0) rfl) (by decide)
        refine lv_iconst (v := 0) hx hb dX12_isSo_168 (by decide) ?_
        exact W.zret (v := 0) (ty := .boolean) hx hb hr rfl (fun t9 ht9 hW9 => ⟨⟨_, rfl, _, rfl, (Rg.wk (lo2 := 0) (hi2 := 1) (Rg.c (c := 0) (k := 0) rfl) (by decide))⟩, ht9.trans hHe⟩) (fun _ h9 => by rw [hlc] at h9; exact absurd h9 List.not_mem_nil) dX12_isSo_169
      · have r_100 : Rg 0 0 x_95 := Rg.eq_l c_98 r_97 (Rg.c (c := 0) (k := 0) rfl) (by decide)
        refine lv_iconst (v := 1) hx hb dX12_isSo_164 (by decide) ?_
        refine lv_goto (tgt := 169) hx hb dX12_isSo_165 (by decide) ?_
        exact W.zret (v := 1) (ty := .boolean) hx hb hr rfl (fun t9 ht9 hW9 => ⟨⟨_, rfl, _, rfl, (Rg.wk (lo2 := 0) (hi2 := 1) (Rg.c (c := 1) (k := 1) rfl) (by decide))⟩, ht9.trans hHe⟩) (fun _ h9 => by rw [hlc] at h9; exact absurd h9 List.not_mem_nil) dX12_isSo_169
    · refine tc_i 4 c_62 ?_
      have r_67 : Rg 4 4 x_59 := Rg.of c_62 (Rg.c rfl)
      refine lv_tableIn (tgt := 170) hx hb dX12_isSo_80 (by decide) (by decide) rfl (by decide) ?_
      refine lv_iload hx hb dX12_isSo_170 (lv_at hl 0 rfl) ?_
      exact W.zret (v := v_49) (ty := .boolean) hx hb hr (nar_b r_51) (fun t9 ht9 hW9 => ⟨⟨_, rfl, _, rfl, r_51⟩, ht9.trans hHe⟩) (fun _ h9 => by rw [hlc] at h9; exact absurd h9 List.not_mem_nil) dX12_isSo_172
  · refine lv_if_eq (tgt := 66) hx hb dX12_isSo_37 (by decide) (fun c_33 => ?_) (fun c_33 => ?_)
    · have r_34 : Rg 0 0 x_30 := Rg.eq_l c_33 r_32 (Rg.c (c := 0) (k := 0) rfl) (by decide)
      refine lv_iconst (v := 0) hx hb dX12_isSo_66 (by decide) ?_
      exact hj_50 0 _ _ _ ⟨(Rg.wk (lo2 := 0) (hi2 := 1) (Rg.c (c := 0) (k := 0) rfl) (by decide)), hHe, hlc, hP, lv_sub hl [0, 1, 2, 3, 4] rfl⟩
    · have r_35 : Rg 1 1 x_30 := Rg.ne c_33 r_32 (Rg.c (c := 0) (k := 0) rfl) (by decide)
      refine lv_iload_n hx hb dX12_isSo_40 rfl (lv_at hl 3 rfl) ?_
      have hPc := va_P.sub (ws' := []) hP [] rfl
      refine cl_V (W.runS (As := [.int a]) (rest := []) ⟨hx, hb, hml, hown, hts⟩ (c_M_heldOf l D cs a hbk.1) ⟨callB_of 1 hts (gd_C qq_7_78) rfl rfl rfl (hT _ qq_1_9) (hT _ qq_7_76) (by decide +kernel) (rm_R rfl rfl), (hT _ qq_7_77)⟩ (pq_S hPc hK hN) rfl rfl hl.1 rfl (lv_room (Nat.le_of_ble_eq_true rfl)) dX12_isSo_41 ⟨Nat.le_of_ble_eq_true rfl, Nat.le_of_ble_eq_true rfl⟩) ?_
      refine lv_topi (fun x_101 e_102 => ?_)
      have r_103 : Rg 0 255 x_101 := Rg.of e_102 (rg_in hbk.1)
      refine lv_iload hx hb dX12_isSo_44 (lv_at hl 0 rfl) ?_
      have hPc := va_P.sub (ws' := []) hP [] rfl
      refine cl_V (W.runS (As := [.int x_101, .int x_24]) (rest := []) ⟨hx, hb, hml, hown, hts⟩ (c_M_isOf l D cs x_101 x_24 r_103 r_26) ⟨callB_of 2 hts (gd_C qq_7_72) rfl rfl rfl (hT _ qq_1_9) (hT _ qq_7_70) (by decide +kernel) (rm_R rfl rfl), (hT _ qq_7_71)⟩ (pq_S hPc hK hN) rfl rfl hl.1 rfl (lv_room (Nat.le_of_ble_eq_true rfl)) dX12_isSo_46 ⟨Nat.le_of_ble_eq_true rfl, Nat.le_of_ble_eq_true rfl⟩) ?_
      refine lv_topi (fun x_104 e_105 => ?_)
      have r_106 : Rg 0 1 x_104 := Rg.of e_105 (bt_rg _ _)
      refine lv_if_eq (tgt := 66) hx hb dX12_isSo_49 (by decide) (fun c_107 => ?_) (fun c_107 => ?_)
      · have r_108 : Rg 0 0 x_104 := Rg.eq_l c_107 r_106 (Rg.c (c := 0) (k := 0) rfl) (by decide)
        refine lv_iconst (v := 0) hx hb dX12_isSo_66 (by decide) ?_
        exact hj_50 0 _ _ _ ⟨(Rg.wk (lo2 := 0) (hi2 := 1) (Rg.c (c := 0) (k := 0) rfl) (by decide)), hHe, hlc, hP, lv_sub hl [0, 1, 2, 3, 4] rfl⟩
      · have r_109 : Rg 1 1 x_104 := Rg.ne c_107 r_106 (Rg.c (c := 0) (k := 0) rfl) (by decide)
        refine lv_iload_n hx hb dX12_isSo_52 rfl (lv_at hl 3 rfl) ?_
        refine lv_iload_n hx hb dX12_isSo_53 rfl (lv_at hl 1 rfl) ?_
        have hPc := va_P.sub (ws' := []) hP [] rfl
        refine cl_V (W.runS (As := [.int a, .int x_11]) (rest := []) ⟨hx, hb, hml, hown, hts⟩ (c_M_placeIn l D cs a x_11 r_13 hbk (bz_1 (n := cN a % 256) (k := cN x_11) (show x_30 = nI (bt (cN a % 256) (cN x_11)) from by rw [e_31, c_held e_28]) c_33)) ⟨callB_of 2 hts (gd_C qq_7_75) rfl rfl rfl (hT _ qq_1_9) (hT _ qq_7_73) (by decide +kernel) (rm_R rfl rfl), (hT _ qq_7_74)⟩ (pq_S hPc hK hN) rfl rfl hl.1 rfl (lv_room (Nat.le_of_ble_eq_true rfl)) dX12_isSo_54 ⟨Nat.le_of_ble_eq_true rfl, Nat.le_of_ble_eq_true rfl⟩) ?_
        refine lv_topi (fun x_110 e_111 => ?_)
        have r_112 : Rg 0 7 x_110 := Rg.of e_111 (pl_rg hbk r_13 (bz_1 (n := cN a % 256) (k := cN x_11) (show x_30 = nI (bt (cN a % 256) (cN x_11)) from by rw [e_31, c_held e_28]) c_33))
        refine lv_iload hx hb dX12_isSo_57 (lv_at hl 0 rfl) ?_
        refine lv_icmp_ne (tgt := 66) hx hb dX12_isSo_59 (by decide) (fun c_113 => ?_) (fun c_113 => ?_)
        · refine lv_iconst (v := 0) hx hb dX12_isSo_66 (by decide) ?_
          exact hj_50 0 _ _ _ ⟨(Rg.wk (lo2 := 0) (hi2 := 1) (Rg.c (c := 0) (k := 0) rfl) (by decide)), hHe, hlc, hP, lv_sub hl [0, 1, 2, 3, 4] rfl⟩
        · refine lv_iconst (v := 1) hx hb dX12_isSo_62 (by decide) ?_
          refine lv_goto (tgt := 67) hx hb dX12_isSo_63 (by decide) ?_
          exact hj_50 1 _ _ _ ⟨(Rg.wk (lo2 := 0) (hi2 := 1) (Rg.c (c := 1) (k := 1) rfl) (by decide)), hHe, hlc, hP, lv_sub hl [0, 1, 2, 3, 4] rfl⟩
theorem dX12_isWay_0 : decode cX12_isWay 0 = .ok (.iload_n 1, 1) := by decide +kernel
theorem dX12_isWay_1 : decode cX12_isWay 1 = .ok (.invokestatic 338, 3) := by decide +kernel
theorem dX12_isWay_4 : decode cX12_isWay 4 = .ok (.invokestatic 341, 3) := by decide +kernel
theorem dX12_isWay_7 : decode cX12_isWay 7 = .ok (.iload_n 1, 1) := by decide +kernel
theorem dX12_isWay_8 : decode cX12_isWay 8 = .ok (.invokestatic 335, 3) := by decide +kernel
theorem dX12_isWay_11 : decode cX12_isWay 11 = .ok (.invokestatic 341, 3) := by decide +kernel
theorem dX12_isWay_14 : decode cX12_isWay 14 = .ok (.if_icmp .ne 33, 3) := by decide +kernel
theorem dX12_isWay_47 : decode cX12_isWay 47 = .ok (.iconst 0, 1) := by decide +kernel
theorem dX12_isWay_48 : decode cX12_isWay 48 = .ok (.ireturn, 1) := by decide +kernel
theorem dX12_isWay_17 : decode cX12_isWay 17 = .ok (.iload_n 1, 1) := by decide +kernel
theorem dX12_isWay_18 : decode cX12_isWay 18 = .ok (.invokestatic 338, 3) := by decide +kernel
theorem dX12_isWay_21 : decode cX12_isWay 21 = .ok (.iconst 1, 1) := by decide +kernel
theorem dX12_isWay_22 : decode cX12_isWay 22 = .ok (.aload_n 0, 1) := by decide +kernel
theorem dX12_isWay_23 : decode cX12_isWay 23 = .ok (.getfield 39, 3) := by decide +kernel
theorem dX12_isWay_26 : decode cX12_isWay 26 = .ok (.iconst 0, 1) := by decide +kernel
theorem dX12_isWay_27 : decode cX12_isWay 27 = .ok (.iaload, 1) := by decide +kernel
theorem dX12_isWay_28 : decode cX12_isWay 28 = .ok (.ishl, 1) := by decide +kernel
theorem dX12_isWay_29 : decode cX12_isWay 29 = .ok (.if_icmp .ge 18, 3) := by decide +kernel
theorem dX12_isWay_32 : decode cX12_isWay 32 = .ok (.iload_n 1, 1) := by decide +kernel
theorem dX12_isWay_33 : decode cX12_isWay 33 = .ok (.invokestatic 335, 3) := by decide +kernel
theorem dX12_isWay_36 : decode cX12_isWay 36 = .ok (.iconst 1, 1) := by decide +kernel
theorem dX12_isWay_37 : decode cX12_isWay 37 = .ok (.aload_n 0, 1) := by decide +kernel
theorem dX12_isWay_38 : decode cX12_isWay 38 = .ok (.getfield 39, 3) := by decide +kernel
theorem dX12_isWay_41 : decode cX12_isWay 41 = .ok (.iconst 1, 1) := by decide +kernel
theorem dX12_isWay_42 : decode cX12_isWay 42 = .ok (.iaload, 1) := by decide +kernel
theorem dX12_isWay_43 : decode cX12_isWay 43 = .ok (.ishl, 1) := by decide +kernel
theorem dX12_isWay_44 : decode cX12_isWay 44 = .ok (.if_icmp .lt 5, 3) := by decide +kernel
theorem dX12_isWay_49 : decode cX12_isWay 49 = .ok (.iconst 0, 1) := by decide +kernel
theorem dX12_isWay_50 : decode cX12_isWay 50 = .ok (.istore_n 2, 1) := by decide +kernel
theorem dX12_isWay_51 : decode cX12_isWay 51 = .ok (.iload_n 2, 1) := by decide +kernel
theorem dX12_isWay_52 : decode cX12_isWay 52 = .ok (.aload_n 0, 1) := by decide +kernel
theorem dX12_isWay_53 : decode cX12_isWay 53 = .ok (.getfield 39, 3) := by decide +kernel
theorem dX12_isWay_56 : decode cX12_isWay 56 = .ok (.iconst 0, 1) := by decide +kernel
theorem dX12_isWay_57 : decode cX12_isWay 57 = .ok (.iaload, 1) := by decide +kernel
theorem dX12_isWay_58 : decode cX12_isWay 58 = .ok (.if_icmp .ge 41, 3) := by decide +kernel
theorem dX12_isWay_99 : decode cX12_isWay 99 = .ok (.iconst 0, 1) := by decide +kernel
theorem dX12_isWay_100 : decode cX12_isWay 100 = .ok (.istore_n 2, 1) := by decide +kernel
theorem dX12_isWay_101 : decode cX12_isWay 101 = .ok (.iload_n 2, 1) := by decide +kernel
theorem dX12_isWay_102 : decode cX12_isWay 102 = .ok (.aload_n 0, 1) := by decide +kernel
theorem dX12_isWay_103 : decode cX12_isWay 103 = .ok (.getfield 39, 3) := by decide +kernel
theorem dX12_isWay_106 : decode cX12_isWay 106 = .ok (.sipush 132, 3) := by decide +kernel
theorem dX12_isWay_109 : decode cX12_isWay 109 = .ok (.iaload, 1) := by decide +kernel
theorem dX12_isWay_110 : decode cX12_isWay 110 = .ok (.if_icmp .ge 20, 3) := by decide +kernel
theorem dX12_isWay_130 : decode cX12_isWay 130 = .ok (.iconst 1, 1) := by decide +kernel
theorem dX12_isWay_131 : decode cX12_isWay 131 = .ok (.ireturn, 1) := by decide +kernel
theorem dX12_isWay_113 : decode cX12_isWay 113 = .ok (.aload_n 0, 1) := by decide +kernel
theorem dX12_isWay_114 : decode cX12_isWay 114 = .ok (.iload_n 1, 1) := by decide +kernel
theorem dX12_isWay_115 : decode cX12_isWay 115 = .ok (.iload_n 2, 1) := by decide +kernel
theorem dX12_isWay_116 : decode cX12_isWay 116 = .ok (.invokevirtual 500, 3) := by decide +kernel
theorem qq_8_59 : Cond.code yX12_isSo cX12_isSo 6 (some .boolean) ∈ TB := mk_tb (ti_8 (List.mem_of_getElem? (i := 59) rfl)) rfl
theorem qq_8_56 : Cond.methodLink "WrongHoleModel" 500 yX12_isSo ∈ TB := mk_tb (ti_8 (List.mem_of_getElem? (i := 56) rfl)) rfl
theorem qq_8_58 : Cond.instanceMethod yX12_isSo ∈ TB := mk_tb (ti_8 (List.mem_of_getElem? (i := 58) rfl)) rfl
theorem qs_7_7 : Cond.selects "WrongHoleModel" yX12_isSo yX12_isSo ∈ TB := mk_tb (ti_s (q := (yX12_isSo, 33)) (List.mem_append_right _ (List.mem_append_right _ (List.mem_append_right _ (List.mem_append_right _ (List.mem_append_right _ (List.mem_append_right _ (List.mem_append_right _ (List.mem_of_getElem? (i := 7) rfl))))))))) rfl
theorem dX12_isWay_119 : decode cX12_isWay 119 = .ok (.ifCond .ne 5, 3) := by decide +kernel
theorem dX12_isWay_124 : decode cX12_isWay 124 = .ok (.iinc 2 1, 3) := by decide +kernel
theorem dX12_isWay_127 : decode cX12_isWay 127 = .ok (.goto (-26), 3) := by decide +kernel
theorem dX12_isWay_122 : decode cX12_isWay 122 = .ok (.iconst 0, 1) := by decide +kernel
theorem dX12_isWay_123 : decode cX12_isWay 123 = .ok (.ireturn, 1) := by decide +kernel
theorem dX12_isWay_61 : decode cX12_isWay 61 = .ok (.iload_n 1, 1) := by decide +kernel
theorem dX12_isWay_62 : decode cX12_isWay 62 = .ok (.invokestatic 338, 3) := by decide +kernel
theorem dX12_isWay_65 : decode cX12_isWay 65 = .ok (.iload_n 2, 1) := by decide +kernel
theorem dX12_isWay_66 : decode cX12_isWay 66 = .ok (.invokestatic 332, 3) := by decide +kernel
theorem dX12_isWay_69 : decode cX12_isWay 69 = .ok (.ifCond .eq 24, 3) := by decide +kernel
theorem dX12_isWay_93 : decode cX12_isWay 93 = .ok (.iinc 2 1, 3) := by decide +kernel
theorem dX12_isWay_96 : decode cX12_isWay 96 = .ok (.goto (-45), 3) := by decide +kernel
theorem dX12_isWay_72 : decode cX12_isWay 72 = .ok (.aload_n 0, 1) := by decide +kernel
theorem dX12_isWay_73 : decode cX12_isWay 73 = .ok (.iload_n 2, 1) := by decide +kernel
theorem dX12_isWay_74 : decode cX12_isWay 74 = .ok (.iconst 0, 1) := by decide +kernel
theorem dX12_isWay_75 : decode cX12_isWay 75 = .ok (.invokevirtual 319, 3) := by decide +kernel
theorem dX12_isWay_78 : decode cX12_isWay 78 = .ok (.aload_n 0, 1) := by decide +kernel
theorem dX12_isWay_79 : decode cX12_isWay 79 = .ok (.iload_n 1, 1) := by decide +kernel
theorem dX12_isWay_80 : decode cX12_isWay 80 = .ok (.iload_n 2, 1) := by decide +kernel
theorem dX12_isWay_81 : decode cX12_isWay 81 = .ok (.invokestatic 347, 3) := by decide +kernel
theorem dX12_isWay_84 : decode cX12_isWay 84 = .ok (.iconst 0, 1) := by decide +kernel
theorem dX12_isWay_85 : decode cX12_isWay 85 = .ok (.invokevirtual 323, 3) := by decide +kernel
theorem dX12_isWay_88 : decode cX12_isWay 88 = .ok (.if_icmp .eq 5, 3) := by decide +kernel
theorem dX12_isWay_91 : decode cX12_isWay 91 = .ok (.iconst 0, 1) := by decide +kernel
theorem dX12_isWay_92 : decode cX12_isWay 92 = .ok (.ireturn, 1) := by decide +kernel
set_option maxHeartbeats 4000000 in
set_option maxRecDepth 100000 in
theorem c_M_isWay (l : Launch) (D : va_G) (cs : Nat → ClassId) (m0 : Nat) (mtp : Nat) (sta : Int32) (sru : Int32) (msg : Nat) (mln : Nat) (mcl : Nat) (mcs : Nat) (mrd : Nat) (snx : Int32) (swr : Int32) (snu : Int32) (ste : Int32) (sma : Int32) (sde : Int32) (sli : Int32) (mop : Nat) (sod : Int32) (mst : Nat) (sto : Int32) (mwd : Nat) (msd : Nat) (sx_ : Int32) (mws : Nat) (sun : Int32) (mfr : Nat) (mqu : Nat) (miw : Nat) (sfi : Int32) (swa : Int32) (sdx : Int64) (mim : Nat) (mix : Nat) (mmd : Nat) (gsd : Nat → Int32) (a : Int32) (hsi : SI gsd) (r_a : Rg 0 65535 a) : Met l yX12_isWay (Cond.code yX12_isWay cX12_isWay 3 (some .boolean) :: TB) (RM 4 0 0) (va_Pc [.ref m0, .int a] (PRR D cs [(m0, .inr (10, (.ref mtp :: .int sta :: .int sru :: .ref msg :: .ref mln :: .ref mcl :: .ref mcs :: .ref mrd :: .int snx :: .int swr :: .int snu :: .int ste :: .int sma :: .int sde :: .int sli :: .ref mop :: .int sod :: .ref mst :: .int sto :: .ref mwd :: .ref msd :: .int sx_ :: .ref mws :: .int sun :: .ref mfr :: .ref mqu :: .ref miw :: .int sfi :: .int swa :: .long sdx :: .ref mim :: .ref mix :: .ref mmd :: []))), (msd, .inl ((cs 0), 133, .inl gsd))])) (QP (fun v => ∃ x : Int32, v = .int x ∧ Rg 0 1 x)) 0 0 (fun _ => False) := by
  refine MER (y := yX12_isWay) (cc := cX12_isWay) (maxL := 3) (ret := (some .boolean)) (d := 4) (D := D) (cs := cs) (ws := [(m0, .inr (10, (.ref mtp :: .int sta :: .int sru :: .ref msg :: .ref mln :: .ref mcl :: .ref mcs :: .ref mrd :: .int snx :: .int swr :: .int snu :: .int ste :: .int sma :: .int sde :: .int sli :: .ref mop :: .int sod :: .ref mst :: .int sto :: .ref mwd :: .ref msd :: .int sx_ :: .ref mws :: .int sun :: .ref mfr :: .ref mqu :: .ref miw :: .int sfi :: .int swa :: .long sdx :: .ref mim :: .ref mix :: .ref mmd :: []))), (msd, .inl ((cs 0), 133, .inl gsd))]) (av := [.ref m0, .int a]) (Qc := QP (fun v => ∃ x : Int32, v = .int x ∧ Rg 0 1 x)) (by decide) (Nat.le_of_ble_eq_true rfl) ?_
  intro p e s m below meth c ls H hHe hx hb hr hml hown hts hlocks hP hK hN hl
  obtain ⟨locs, hlc⟩ : ∃ z : List Loc, z = [] := ⟨_, rfl⟩
  rw [← hlc]
  have hown : s.vm.findClass "WrongHoleModel" = some m.cls := hown
  have hT : ∀ w ∈ TB, w.before ([.ref m0, .int a] : List Value).toArray s = true := fun w h => hts w (List.mem_cons_of_mem _ h)
  have hl : lv_has ls 3 [(0, .ref m0), (1, .int a)] := hl
  have hP : va_P D vwCl [(m0, .inr (10, (.ref mtp :: .int sta :: .int sru :: .ref msg :: .ref mln :: .ref mcl :: .ref mcs :: .ref mrd :: .int snx :: .int swr :: .int snu :: .int ste :: .int sma :: .int sde :: .int sli :: .ref mop :: .int sod :: .ref mst :: .int sto :: .ref mwd :: .ref msd :: .int sx_ :: .ref mws :: .int sun :: .ref mfr :: .ref mqu :: .ref miw :: .int sfi :: .int swa :: .long sdx :: .ref mim :: .ref mix :: .ref mmd :: []))), (msd, .inl ((cs 0), 133, .inl gsd))] H := hP
  refine lv_iload_n hx hb dX12_isWay_0 rfl (lv_at hl 1 rfl) ?_
  have hPc := va_P.sub (ws' := []) hP [] rfl
  refine cl_V (W.runS (As := [.int a]) (rest := []) ⟨hx, hb, hml, hown, hts⟩ (c_M_inOf l D cs a r_a) ⟨callB_of 1 hts (gd_C qq_7_58) rfl rfl rfl (hT _ qq_1_9) (hT _ qq_7_56) (by decide +kernel) (rm_R rfl rfl), (hT _ qq_7_57)⟩ (pq_S hPc hK hN) rfl rfl hl.1 rfl (lv_room (Nat.le_of_ble_eq_true rfl)) dX12_isWay_1 ⟨Nat.le_of_ble_eq_true rfl, Nat.le_of_ble_eq_true rfl⟩) ?_
  refine lv_topi (fun x_1 e_2 => ?_)
  have r_3 : Rg 0 255 x_1 := Rg.of e_2 (rg_held _)
  have hPc := va_P.sub (ws' := []) hP [] rfl
  refine cl_V (W.runS (As := [.int x_1]) (rest := []) ⟨hx, hb, hml, hown, hts⟩ (c_M_bits l D cs x_1 r_3) ⟨callB_of 1 hts (gd_C qq_7_61) rfl rfl rfl (hT _ qq_1_9) (hT _ qq_7_59) (by decide +kernel) (rm_R rfl rfl), (hT _ qq_7_60)⟩ (pq_S hPc hK hN) rfl rfl hl.1 rfl (lv_room (Nat.le_of_ble_eq_true rfl)) dX12_isWay_4 ⟨Nat.le_of_ble_eq_true rfl, Nat.le_of_ble_eq_true rfl⟩) ?_
  refine lv_topi (fun x_4 e_5 => ?_)
  have r_6 : Rg 0 8 x_4 := Rg.of e_5 (pc_rg _)
  refine lv_iload_n hx hb dX12_isWay_7 rfl (lv_at hl 1 rfl) ?_
  have hPc := va_P.sub (ws' := []) hP [] rfl
  refine cl_V (W.runS (As := [.int a]) (rest := [.int x_4]) ⟨hx, hb, hml, hown, hts⟩ (c_M_heldOf l D cs a r_a) ⟨callB_of 1 hts (gd_C qq_7_78) rfl rfl rfl (hT _ qq_1_9) (hT _ qq_7_76) (by decide +kernel) (rm_R rfl rfl), (hT _ qq_7_77)⟩ (pq_S hPc hK hN) rfl rfl hl.1 rfl (lv_room (Nat.le_of_ble_eq_true rfl)) dX12_isWay_8 ⟨Nat.le_of_ble_eq_true rfl, Nat.le_of_ble_eq_true rfl⟩) ?_
  refine lv_topi (fun x_7 e_8 => ?_)
  have r_9 : Rg 0 255 x_7 := Rg.of e_8 (rg_in r_a)
  have hPc := va_P.sub (ws' := []) hP [] rfl
  refine cl_V (W.runS (As := [.int x_7]) (rest := [.int x_4]) ⟨hx, hb, hml, hown, hts⟩ (c_M_bits l D cs x_7 r_9) ⟨callB_of 1 hts (gd_C qq_7_61) rfl rfl rfl (hT _ qq_1_9) (hT _ qq_7_59) (by decide +kernel) (rm_R rfl rfl), (hT _ qq_7_60)⟩ (pq_S hPc hK hN) rfl rfl hl.1 rfl (lv_room (Nat.le_of_ble_eq_true rfl)) dX12_isWay_11 ⟨Nat.le_of_ble_eq_true rfl, Nat.le_of_ble_eq_true rfl⟩) ?_
  refine lv_topi (fun x_10 e_11 => ?_)
  have r_12 : Rg 0 8 x_10 := Rg.of e_11 (pc_rg _)
  refine lv_icmp_ne (tgt := 47) hx hb dX12_isWay_14 (by decide) (fun c_13 => ?_) (fun c_13 => ?_)
  · refine lv_iconst (v := 0) hx hb dX12_isWay_47 (by decide) ?_
    exact W.zret (v := 0) (ty := .boolean) hx hb hr rfl (fun t9 ht9 hW9 => ⟨⟨_, rfl, _, rfl, (Rg.wk (lo2 := 0) (hi2 := 1) (Rg.c (c := 0) (k := 0) rfl) (by decide))⟩, ht9.trans hHe⟩) (fun _ h9 => by rw [hlc] at h9; exact absurd h9 List.not_mem_nil) dX12_isWay_48
  · refine lv_iload_n hx hb dX12_isWay_17 rfl (lv_at hl 1 rfl) ?_
    have hPc := va_P.sub (ws' := []) hP [] rfl
    refine cl_V (W.runS (As := [.int a]) (rest := []) ⟨hx, hb, hml, hown, hts⟩ (c_M_inOf l D cs a r_a) ⟨callB_of 1 hts (gd_C qq_7_58) rfl rfl rfl (hT _ qq_1_9) (hT _ qq_7_56) (by decide +kernel) (rm_R rfl rfl), (hT _ qq_7_57)⟩ (pq_S hPc hK hN) rfl rfl hl.1 rfl (lv_room (Nat.le_of_ble_eq_true rfl)) dX12_isWay_18 ⟨Nat.le_of_ble_eq_true rfl, Nat.le_of_ble_eq_true rfl⟩) ?_
    refine lv_topi (fun x_14 e_15 => ?_)
    have r_16 : Rg 0 255 x_14 := Rg.of e_15 (rg_held _)
    refine lv_iconst (v := 1) hx hb dX12_isWay_21 (by decide) ?_
    refine lv_aload_n hx hb dX12_isWay_22 rfl (lv_at hl 0 rfl) ?_
    refine va_get (D := D) (ci := 10) (v := .ref msd) (C := "WrongHoleModel") (T := TX12) (N := 33) hx hb hts (iq_RX12 _) hown hK hP 0 rfl rfl 20 (by decide) (hT _ qq_5_172) (fun _ h9 => h9) rfl dX12_isWay_23 ?_
    refine lv_iconst (v := 0) hx hb dX12_isWay_26 (by decide) ?_
    have hi_17 : vp_in 0 133 := vi_c rfl
    refine va_iald hx hb hK hP 1 0 rfl rfl hi_17 dX12_isWay_27 ?_
    refine lv_topi (fun x_18 e_19 => ?_)
    have r_20 : Rg 0 8 x_18 := Rg.of e_19 (hsi.a0)
    refine lv_ishl hx hb dX12_isWay_28 ?_
    refine lv_topi (fun x_21 e_22 => ?_)
    have r_23 : Rg 0 256 x_21 := Rg.shl (ha := 1) (k := 8) e_22 (Rg.wk (Rg.c (c := 1) (k := 1) rfl) (by decide)) (Rg.wk r_20 (by decide)) (by decide) (by decide)
    refine lv_icmp_ge (tgt := 47) hx hb dX12_isWay_29 (by decide) (fun c_24 => ?_) (fun c_24 => ?_)
    · have r_25 : Rg 0 255 x_21 := Rg.le_l c_24 r_23 r_16 (by decide)
      refine lv_iconst (v := 0) hx hb dX12_isWay_47 (by decide) ?_
      exact W.zret (v := 0) (ty := .boolean) hx hb hr rfl (fun t9 ht9 hW9 => ⟨⟨_, rfl, _, rfl, (Rg.wk (lo2 := 0) (hi2 := 1) (Rg.c (c := 0) (k := 0) rfl) (by decide))⟩, ht9.trans hHe⟩) (fun _ h9 => by rw [hlc] at h9; exact absurd h9 List.not_mem_nil) dX12_isWay_48
    · have r_26 : Rg 1 256 x_21 := Rg.lt_r (nle_lt c_24) r_16 r_23 (by decide)
      refine lv_iload_n hx hb dX12_isWay_32 rfl (lv_at hl 1 rfl) ?_
      have hPc := va_P.sub (ws' := []) hP [] rfl
      refine cl_V (W.runS (As := [.int a]) (rest := []) ⟨hx, hb, hml, hown, hts⟩ (c_M_heldOf l D cs a r_a) ⟨callB_of 1 hts (gd_C qq_7_78) rfl rfl rfl (hT _ qq_1_9) (hT _ qq_7_76) (by decide +kernel) (rm_R rfl rfl), (hT _ qq_7_77)⟩ (pq_S hPc hK hN) rfl rfl hl.1 rfl (lv_room (Nat.le_of_ble_eq_true rfl)) dX12_isWay_33 ⟨Nat.le_of_ble_eq_true rfl, Nat.le_of_ble_eq_true rfl⟩) ?_
      refine lv_topi (fun x_27 e_28 => ?_)
      have r_29 : Rg 0 255 x_27 := Rg.of e_28 (rg_in r_a)
      refine lv_iconst (v := 1) hx hb dX12_isWay_36 (by decide) ?_
      refine lv_aload_n hx hb dX12_isWay_37 rfl (lv_at hl 0 rfl) ?_
      refine va_get (D := D) (ci := 10) (v := .ref msd) (C := "WrongHoleModel") (T := TX12) (N := 33) hx hb hts (iq_RX12 _) hown hK hP 0 rfl rfl 20 (by decide) (hT _ qq_5_172) (fun _ h9 => h9) rfl dX12_isWay_38 ?_
      refine lv_iconst (v := 1) hx hb dX12_isWay_41 (by decide) ?_
      have hi_30 : vp_in 1 133 := vi_c rfl
      refine va_iald hx hb hK hP 1 0 rfl rfl hi_30 dX12_isWay_42 ?_
      refine lv_topi (fun x_31 e_32 => ?_)
      have r_33 : Rg 0 8 x_31 := Rg.of e_32 (hsi.a1)
      refine lv_ishl hx hb dX12_isWay_43 ?_
      refine lv_topi (fun x_34 e_35 => ?_)
      have r_36 : Rg 0 256 x_34 := Rg.shl (ha := 1) (k := 8) e_35 (Rg.wk (Rg.c (c := 1) (k := 1) rfl) (by decide)) (Rg.wk r_33 (by decide)) (by decide) (by decide)
      refine lv_icmp_lt (tgt := 49) hx hb dX12_isWay_44 (by decide) (fun c_37 => ?_) (fun c_37 => ?_)
      · have r_38 : Rg 1 256 x_34 := Rg.lt_r c_37 r_29 r_36 (by decide)
        have bk_40 : BK a := ⟨r_a, by have h9 := (pc_ne e_5 e_11).mp c_13; rw [c_held e_2, c_in e_8 r_a] at h9; exact h9⟩
        refine lv_iconst (v := 0) hx hb dX12_isWay_49 (by decide) ?_
        refine lv_istore_n (lv' := [(2, .int 0), (0, .ref m0), (1, .int a)]) hx hb dX12_isWay_50 rfl hl (by decide) rfl (fun ls hl => ?_)
        refine w_wh (σ := (Int32)) (fun (v_212 : Int32) H locs ls => Rg 0 8 v_212 ∧ H = s.heap ∧ locs = [] ∧ va_P D vwCl [(m0, .inr (10, (.ref mtp :: .int sta :: .int sru :: .ref msg :: .ref mln :: .ref mcl :: .ref mcs :: .ref mrd :: .int snx :: .int swr :: .int snu :: .int ste :: .int sma :: .int sde :: .int sli :: .ref mop :: .int sod :: .ref mst :: .int sto :: .ref mwd :: .ref msd :: .int sx_ :: .ref mws :: .int sun :: .ref mfr :: .ref mqu :: .ref miw :: .int sfi :: .int swa :: .long sdx :: .ref mim :: .ref mix :: .ref mmd :: []))), (msd, .inl ((cs 0), 133, .inl gsd))] H ∧ lv_has ls 3 [(2, .int v_212), (0, .ref m0), (1, .int a)]) (fun (v_212 : Int32) => (8 - Int32.toInt v_212).toNat) 51 ?_ 0 H locs ls ⟨(Rg.wk (lo2 := 0) (hi2 := 8) (Rg.c (c := 0) (k := 0) rfl) (by decide)), hHe, hlc, hP, lv_sub hl [0, 1, 2] rfl⟩
        rintro v_212 H locs ls ⟨r_1630, hHe, hlc, hP, hl⟩ ih_1629
        refine lv_iload_n hx hb dX12_isWay_51 rfl (lv_at hl 0 rfl) ?_
        refine lv_aload_n hx hb dX12_isWay_52 rfl (lv_at hl 1 rfl) ?_
        refine va_get (D := D) (ci := 10) (v := .ref msd) (C := "WrongHoleModel") (T := TX12) (N := 33) hx hb hts (iq_RX12 _) hown hK hP 0 rfl rfl 20 (by decide) (hT _ qq_5_172) (fun _ h9 => h9) rfl dX12_isWay_53 ?_
        refine lv_iconst (v := 0) hx hb dX12_isWay_56 (by decide) ?_
        have hi_1631 : vp_in 0 133 := vi_c rfl
        refine va_iald hx hb hK hP 1 0 rfl rfl hi_1631 dX12_isWay_57 ?_
        refine lv_topi (fun x_1632 e_1633 => ?_)
        have r_1634 : Rg 0 8 x_1632 := Rg.of e_1633 (hsi.a0)
        refine lv_icmp_ge (tgt := 99) hx hb dX12_isWay_58 (by decide) (fun c_1635 => ?_) (fun c_1635 => ?_)
        · refine lv_iconst (v := 0) hx hb dX12_isWay_99 (by decide) ?_
          refine lv_istore_n (lv' := [(2, .int 0), (0, .ref m0), (1, .int a)]) hx hb dX12_isWay_100 rfl hl (by decide) rfl (fun ls hl => ?_)
          refine w_wh (σ := (Int32)) (fun (v_1650 : Int32) H locs ls => Rg 0 10 v_1650 ∧ H = s.heap ∧ locs = [] ∧ va_P D vwCl [(m0, .inr (10, (.ref mtp :: .int sta :: .int sru :: .ref msg :: .ref mln :: .ref mcl :: .ref mcs :: .ref mrd :: .int snx :: .int swr :: .int snu :: .int ste :: .int sma :: .int sde :: .int sli :: .ref mop :: .int sod :: .ref mst :: .int sto :: .ref mwd :: .ref msd :: .int sx_ :: .ref mws :: .int sun :: .ref mfr :: .ref mqu :: .ref miw :: .int sfi :: .int swa :: .long sdx :: .ref mim :: .ref mix :: .ref mmd :: []))), (msd, .inl ((cs 0), 133, .inl gsd))] H ∧ lv_has ls 3 [(2, .int v_1650), (0, .ref m0), (1, .int a)]) (fun (v_1650 : Int32) => (10 - Int32.toInt v_1650).toNat) 101 ?_ 0 H locs ls ⟨(Rg.wk (lo2 := 0) (hi2 := 10) (Rg.c (c := 0) (k := 0) rfl) (by decide)), hHe, hlc, hP, lv_sub hl [0, 1, 2] rfl⟩
          rintro v_1650 H locs ls ⟨r_1772, hHe, hlc, hP, hl⟩ ih_1771
          refine lv_iload_n hx hb dX12_isWay_101 rfl (lv_at hl 0 rfl) ?_
          refine lv_aload_n hx hb dX12_isWay_102 rfl (lv_at hl 1 rfl) ?_
          refine va_get (D := D) (ci := 10) (v := .ref msd) (C := "WrongHoleModel") (T := TX12) (N := 33) hx hb hts (iq_RX12 _) hown hK hP 0 rfl rfl 20 (by decide) (hT _ qq_5_172) (fun _ h9 => h9) rfl dX12_isWay_103 ?_
          refine lv_sipush (v := 132) hx hb dX12_isWay_106 (by decide) ?_
          have hi_1773 : vp_in 132 133 := vi_c rfl
          refine va_iald hx hb hK hP 1 0 rfl rfl hi_1773 dX12_isWay_109 ?_
          refine lv_topi (fun x_1774 e_1775 => ?_)
          have r_1776 : Rg 0 10 x_1774 := Rg.of e_1775 (hsi.a132)
          refine lv_icmp_ge (tgt := 130) hx hb dX12_isWay_110 (by decide) (fun c_1777 => ?_) (fun c_1777 => ?_)
          · refine lv_iconst (v := 1) hx hb dX12_isWay_130 (by decide) ?_
            exact W.zret (v := 1) (ty := .boolean) hx hb hr rfl (fun t9 ht9 hW9 => ⟨⟨_, rfl, _, rfl, (Rg.wk (lo2 := 0) (hi2 := 1) (Rg.c (c := 1) (k := 1) rfl) (by decide))⟩, ht9.trans hHe⟩) (fun _ h9 => by rw [hlc] at h9; exact absurd h9 List.not_mem_nil) dX12_isWay_131
          · have r_1778 : Rg 0 9 v_1650 := Rg.lt_l (nle_lt c_1777) r_1772 r_1776 (by decide)
            have r_1779 : Rg 1 10 x_1774 := Rg.lt_r (nle_lt c_1777) r_1772 r_1776 (by decide)
            refine lv_aload_n hx hb dX12_isWay_113 rfl (lv_at hl 1 rfl) ?_
            refine lv_iload_n hx hb dX12_isWay_114 rfl (lv_at hl 2 rfl) ?_
            refine lv_iload_n hx hb dX12_isWay_115 rfl (lv_at hl 0 rfl) ?_
            have hPc := va_P.sub (ws' := [(m0, .inr (10, (.ref mtp :: .int sta :: .int sru :: .ref msg :: .ref mln :: .ref mcl :: .ref mcs :: .ref mrd :: .int snx :: .int swr :: .int snu :: .int ste :: .int sma :: .int sde :: .int sli :: .ref mop :: .int sod :: .ref mst :: .int sto :: .ref mwd :: .ref msd :: .int sx_ :: .ref mws :: .int sun :: .ref mfr :: .ref mqu :: .ref miw :: .int sfi :: .int swa :: .long sdx :: .ref mim :: .ref mix :: .ref mmd :: []))), (msd, .inl ((cs 0), 133, .inl gsd))]) hP [0, 1] rfl
            refine cl_P (W.runV (As := [.int a, .int v_1650]) (rest := []) ⟨hx, hb, hml, hown, hts⟩ (c_M_isSo l D cs m0 mtp sta sru msg mln mcl mcs mrd snx swr snu ste sma sde sli mop sod mst sto mwd msd sx_ mws sun mfr mqu miw sfi swa sdx mim mix mmd gsd a v_1650 hsi bk_40 r_1778) ⟨callB_of 2 hts (gd_C qq_8_59) rfl rfl rfl (hT _ qq_1_9) (hT _ qq_8_56) (by decide +kernel) (rm_R rfl rfl), (hT _ qq_8_58), (hT _ qs_7_7)⟩ (pq_V hPc hK hN (ci := 10) (q0 := 0) rfl rfl) rfl rfl hl.1 rfl (lv_room (Nat.le_of_ble_eq_true rfl)) dX12_isWay_116 ⟨Nat.le_of_ble_eq_true rfl, Nat.le_of_ble_eq_true rfl⟩) (fun v9 hz_1781 => ?_)
            obtain ⟨x_1780, rfl, r_1782⟩ := hz_1781
            refine lv_if_ne (tgt := 124) hx hb dX12_isWay_119 (by decide) (fun c_1783 => ?_) (fun c_1783 => ?_)
            · have r_1784 : Rg 1 1 x_1780 := Rg.ne c_1783 r_1782 (Rg.c (c := 0) (k := 0) rfl) (by decide)
              obtain ⟨x_1786, e_1787⟩ : ∃ z : Int32, z = v_1650 + Int32.ofInt 1 := ⟨_, rfl⟩
              have r_1788 : Rg 1 10 x_1786 := Rg.add e_1787 r_1778 (Rg.c (c := Int32.ofInt 1) (k := 1) rfl) (by decide)
              refine lv_iinc (v := x_1786) (lv' := [(2, .int x_1786), (0, .ref m0), (1, .int a)]) hx hb dX12_isWay_124 hl (k := 0) rfl (e_1787.symm) (by decide) rfl (fun ls hl => ?_)
              refine lv_goto (tgt := 101) hx hb dX12_isWay_127 (by decide) ?_
              exact ih_1771 x_1786 _ _ _ ⟨(Rg.wk (lo2 := 0) (hi2 := 10) r_1788 (by decide)), hHe, hlc, hP, lv_sub hl [0, 1, 2] rfl⟩ (ms_up e_1787 r_1778 (Rg.c (c := Int32.ofInt 1) (k := 1) rfl) (by decide))
            · have r_1785 : Rg 0 0 x_1780 := Rg.eq_l c_1783 r_1782 (Rg.c (c := 0) (k := 0) rfl) (by decide)
              refine lv_iconst (v := 0) hx hb dX12_isWay_122 (by decide) ?_
              exact W.zret (v := 0) (ty := .boolean) hx hb hr rfl (fun t9 ht9 hW9 => ⟨⟨_, rfl, _, rfl, (Rg.wk (lo2 := 0) (hi2 := 1) (Rg.c (c := 0) (k := 0) rfl) (by decide))⟩, ht9.trans hHe⟩) (fun _ h9 => by rw [hlc] at h9; exact absurd h9 List.not_mem_nil) dX12_isWay_123
        · have r_1636 : Rg 0 7 v_212 := Rg.lt_l (nle_lt c_1635) r_1630 r_1634 (by decide)
          have r_1637 : Rg 1 8 x_1632 := Rg.lt_r (nle_lt c_1635) r_1630 r_1634 (by decide)
          refine lv_iload_n hx hb dX12_isWay_61 rfl (lv_at hl 2 rfl) ?_
          have hPc := va_P.sub (ws' := []) hP [] rfl
          refine cl_V (W.runS (As := [.int a]) (rest := []) ⟨hx, hb, hml, hown, hts⟩ (c_M_inOf l D cs a r_a) ⟨callB_of 1 hts (gd_C qq_7_58) rfl rfl rfl (hT _ qq_1_9) (hT _ qq_7_56) (by decide +kernel) (rm_R rfl rfl), (hT _ qq_7_57)⟩ (pq_S hPc hK hN) rfl rfl hl.1 rfl (lv_room (Nat.le_of_ble_eq_true rfl)) dX12_isWay_62 ⟨Nat.le_of_ble_eq_true rfl, Nat.le_of_ble_eq_true rfl⟩) ?_
          refine lv_topi (fun x_1789 e_1790 => ?_)
          have r_1791 : Rg 0 255 x_1789 := Rg.of e_1790 (rg_held _)
          refine lv_iload_n hx hb dX12_isWay_65 rfl (lv_at hl 0 rfl) ?_
          have hPc := va_P.sub (ws' := []) hP [] rfl
          refine cl_V (W.runS (As := [.int x_1789, .int v_212]) (rest := []) ⟨hx, hb, hml, hown, hts⟩ (c_M_isOf l D cs x_1789 v_212 r_1791 r_1636) ⟨callB_of 2 hts (gd_C qq_7_72) rfl rfl rfl (hT _ qq_1_9) (hT _ qq_7_70) (by decide +kernel) (rm_R rfl rfl), (hT _ qq_7_71)⟩ (pq_S hPc hK hN) rfl rfl hl.1 rfl (lv_room (Nat.le_of_ble_eq_true rfl)) dX12_isWay_66 ⟨Nat.le_of_ble_eq_true rfl, Nat.le_of_ble_eq_true rfl⟩) ?_
          refine lv_topi (fun x_1792 e_1793 => ?_)
          have r_1794 : Rg 0 1 x_1792 := Rg.of e_1793 (bt_rg _ _)
          refine lv_if_eq (tgt := 93) hx hb dX12_isWay_69 (by decide) (fun c_1795 => ?_) (fun c_1795 => ?_)
          · have r_1796 : Rg 0 0 x_1792 := Rg.eq_l c_1795 r_1794 (Rg.c (c := 0) (k := 0) rfl) (by decide)
            obtain ⟨x_1798, e_1799⟩ : ∃ z : Int32, z = v_212 + Int32.ofInt 1 := ⟨_, rfl⟩
            have r_1800 : Rg 1 8 x_1798 := Rg.add e_1799 r_1636 (Rg.c (c := Int32.ofInt 1) (k := 1) rfl) (by decide)
            refine lv_iinc (v := x_1798) (lv' := [(2, .int x_1798), (0, .ref m0), (1, .int a)]) hx hb dX12_isWay_93 hl (k := 0) rfl (e_1799.symm) (by decide) rfl (fun ls hl => ?_)
            refine lv_goto (tgt := 51) hx hb dX12_isWay_96 (by decide) ?_
            exact ih_1629 x_1798 _ _ _ ⟨(Rg.wk (lo2 := 0) (hi2 := 8) r_1800 (by decide)), hHe, hlc, hP, lv_sub hl [0, 1, 2] rfl⟩ (ms_up e_1799 r_1636 (Rg.c (c := Int32.ofInt 1) (k := 1) rfl) (by decide))
          · have r_1797 : Rg 1 1 x_1792 := Rg.ne c_1795 r_1794 (Rg.c (c := 0) (k := 0) rfl) (by decide)
            refine lv_aload_n hx hb dX12_isWay_72 rfl (lv_at hl 1 rfl) ?_
            refine lv_iload_n hx hb dX12_isWay_73 rfl (lv_at hl 0 rfl) ?_
            refine lv_iconst (v := 0) hx hb dX12_isWay_74 (by decide) ?_
            have hPc := va_P.sub (ws' := [(m0, .inr (10, (.ref mtp :: .int sta :: .int sru :: .ref msg :: .ref mln :: .ref mcl :: .ref mcs :: .ref mrd :: .int snx :: .int swr :: .int snu :: .int ste :: .int sma :: .int sde :: .int sli :: .ref mop :: .int sod :: .ref mst :: .int sto :: .ref mwd :: .ref msd :: .int sx_ :: .ref mws :: .int sun :: .ref mfr :: .ref mqu :: .ref miw :: .int sfi :: .int swa :: .long sdx :: .ref mim :: .ref mix :: .ref mmd :: []))), (msd, .inl ((cs 0), 133, .inl gsd))]) hP [0, 1] rfl
            refine cl_V (W.runV (As := [.int v_212, .int 0]) (rest := []) ⟨hx, hb, hml, hown, hts⟩ (c_M_buttonOf_0 l D cs m0 mtp sta sru msg mln mcl mcs mrd snx swr snu ste sma sde sli mop sod mst sto mwd msd sx_ mws sun mfr mqu miw sfi swa sdx mim mix mmd gsd v_212 hsi r_1636) ⟨callB_of 2 hts (gd_C qq_7_9) rfl rfl rfl (hT _ qq_1_9) (hT _ qq_7_6) (by decide +kernel) (rm_R rfl rfl), (hT _ qq_7_8), (hT _ qs_4_11)⟩ (pq_V hPc hK hN (ci := 10) (q0 := 0) rfl rfl) rfl rfl hl.1 rfl (lv_room (Nat.le_of_ble_eq_true rfl)) dX12_isWay_75 ⟨Nat.le_of_ble_eq_true rfl, Nat.le_of_ble_eq_true rfl⟩) ?_
            refine lv_topi (fun x_1801 e_1802 => ?_)
            refine lv_aload_n hx hb dX12_isWay_78 rfl (lv_at hl 1 rfl) ?_
            refine lv_iload_n hx hb dX12_isWay_79 rfl (lv_at hl 2 rfl) ?_
            refine lv_iload_n hx hb dX12_isWay_80 rfl (lv_at hl 0 rfl) ?_
            have hPc := va_P.sub (ws' := []) hP [] rfl
            refine cl_V (W.runS (As := [.int a, .int v_212]) (rest := [.ref m0, .int x_1801]) ⟨hx, hb, hml, hown, hts⟩ (c_M_placeIn l D cs a v_212 r_1636 bk_40 (bz_1 (n := cN a % 256) (k := cN v_212) (show x_1792 = nI (bt (cN a % 256) (cN v_212)) from by rw [e_1793, c_held e_1790]) c_1795)) ⟨callB_of 2 hts (gd_C qq_7_75) rfl rfl rfl (hT _ qq_1_9) (hT _ qq_7_73) (by decide +kernel) (rm_R rfl rfl), (hT _ qq_7_74)⟩ (pq_S hPc hK hN) rfl rfl hl.1 rfl (lv_room (Nat.le_of_ble_eq_true rfl)) dX12_isWay_81 ⟨Nat.le_of_ble_eq_true rfl, Nat.le_of_ble_eq_true rfl⟩) ?_
            refine lv_topi (fun x_1803 e_1804 => ?_)
            have r_1805 : Rg 0 7 x_1803 := Rg.of e_1804 (pl_rg bk_40 r_1636 (bz_1 (n := cN a % 256) (k := cN v_212) (show x_1792 = nI (bt (cN a % 256) (cN v_212)) from by rw [e_1793, c_held e_1790]) c_1795))
            refine lv_iconst (v := 0) hx hb dX12_isWay_84 (by decide) ?_
            have hPc := va_P.sub (ws' := [(m0, .inr (10, (.ref mtp :: .int sta :: .int sru :: .ref msg :: .ref mln :: .ref mcl :: .ref mcs :: .ref mrd :: .int snx :: .int swr :: .int snu :: .int ste :: .int sma :: .int sde :: .int sli :: .ref mop :: .int sod :: .ref mst :: .int sto :: .ref mwd :: .ref msd :: .int sx_ :: .ref mws :: .int sun :: .ref mfr :: .ref mqu :: .ref miw :: .int sfi :: .int swa :: .long sdx :: .ref mim :: .ref mix :: .ref mmd :: []))), (msd, .inl ((cs 0), 133, .inl gsd))]) hP [0, 1] rfl
            refine cl_V (W.runV (As := [.int x_1803, .int 0]) (rest := [.int x_1801]) ⟨hx, hb, hml, hown, hts⟩ (c_M_holeOf_0 l D cs m0 mtp sta sru msg mln mcl mcs mrd snx swr snu ste sma sde sli mop sod mst sto mwd msd sx_ mws sun mfr mqu miw sfi swa sdx mim mix mmd gsd x_1803 hsi r_1805) ⟨callB_of 2 hts (gd_C qq_7_29) rfl rfl rfl (hT _ qq_1_9) (hT _ qq_7_26) (by decide +kernel) (rm_R rfl rfl), (hT _ qq_7_28), (hT _ qs_5_0)⟩ (pq_V hPc hK hN (ci := 10) (q0 := 0) rfl rfl) rfl rfl hl.1 rfl (lv_room (Nat.le_of_ble_eq_true rfl)) dX12_isWay_85 ⟨Nat.le_of_ble_eq_true rfl, Nat.le_of_ble_eq_true rfl⟩) ?_
            refine lv_topi (fun x_1806 e_1807 => ?_)
            refine lv_icmp_eq (tgt := 93) hx hb dX12_isWay_88 (by decide) (fun c_1808 => ?_) (fun c_1808 => ?_)
            · obtain ⟨x_1809, e_1810⟩ : ∃ z : Int32, z = v_212 + Int32.ofInt 1 := ⟨_, rfl⟩
              have r_1811 : Rg 1 8 x_1809 := Rg.add e_1810 r_1636 (Rg.c (c := Int32.ofInt 1) (k := 1) rfl) (by decide)
              refine lv_iinc (v := x_1809) (lv' := [(2, .int x_1809), (0, .ref m0), (1, .int a)]) hx hb dX12_isWay_93 hl (k := 0) rfl (e_1810.symm) (by decide) rfl (fun ls hl => ?_)
              refine lv_goto (tgt := 51) hx hb dX12_isWay_96 (by decide) ?_
              exact ih_1629 x_1809 _ _ _ ⟨(Rg.wk (lo2 := 0) (hi2 := 8) r_1811 (by decide)), hHe, hlc, hP, lv_sub hl [0, 1, 2] rfl⟩ (ms_up e_1810 r_1636 (Rg.c (c := Int32.ofInt 1) (k := 1) rfl) (by decide))
            · refine lv_iconst (v := 0) hx hb dX12_isWay_91 (by decide) ?_
              exact W.zret (v := 0) (ty := .boolean) hx hb hr rfl (fun t9 ht9 hW9 => ⟨⟨_, rfl, _, rfl, (Rg.wk (lo2 := 0) (hi2 := 1) (Rg.c (c := 0) (k := 0) rfl) (by decide))⟩, ht9.trans hHe⟩) (fun _ h9 => by rw [hlc] at h9; exact absurd h9 List.not_mem_nil) dX12_isWay_92
      · have r_39 : Rg 0 255 x_34 := Rg.le_l (nlt_le c_37) r_36 r_29 (by decide)
        refine lv_iconst (v := 0) hx hb dX12_isWay_47 (by decide) ?_
        exact W.zret (v := 0) (ty := .boolean) hx hb hr rfl (fun t9 ht9 hW9 => ⟨⟨_, rfl, _, rfl, (Rg.wk (lo2 := 0) (hi2 := 1) (Rg.c (c := 0) (k := 0) rfl) (by decide))⟩, ht9.trans hHe⟩) (fun _ h9 => by rw [hlc] at h9; exact absurd h9 List.not_mem_nil) dX12_isWay_48
theorem dX12_ways_0 : decode cX12_ways 0 = .ok (.aload_n 0, 1) := by decide +kernel
theorem dX12_ways_1 : decode cX12_ways 1 = .ok (.invokevirtual 397, 3) := by decide +kernel
theorem dX12_ways_4 : decode cX12_ways 4 = .ok (.ifCond .eq 15, 3) := by decide +kernel
theorem dX12_ways_19 : decode cX12_ways 19 = .ok (.iconst (-1), 1) := by decide +kernel
theorem dX12_ways_20 : decode cX12_ways 20 = .ok (.ireturn, 1) := by decide +kernel
theorem dX12_ways_7 : decode cX12_ways 7 = .ok (.iload_n 1, 1) := by decide +kernel
theorem dX12_ways_8 : decode cX12_ways 8 = .ok (.i2l, 1) := by decide +kernel
theorem dX12_ways_9 : decode cX12_ways 9 = .ok (.lconst 0, 1) := by decide +kernel
theorem dX12_ways_10 : decode cX12_ways 10 = .ok (.ldc2_w 395, 3) := by decide +kernel
theorem dX12_ways_13 : decode cX12_ways 13 = .ok (.invokestatic 104, 3) := by decide +kernel
theorem dX12_ways_16 : decode cX12_ways 16 = .ok (.ifCond .ne 5, 3) := by decide +kernel
theorem dX12_ways_21 : decode cX12_ways 21 = .ok (.iconst 0, 1) := by decide +kernel
theorem dX12_ways_22 : decode cX12_ways 22 = .ok (.istore_n 2, 1) := by decide +kernel
theorem dX12_ways_23 : decode cX12_ways 23 = .ok (.iconst 1, 1) := by decide +kernel
theorem dX12_ways_24 : decode cX12_ways 24 = .ok (.aload_n 0, 1) := by decide +kernel
theorem dX12_ways_25 : decode cX12_ways 25 = .ok (.getfield 39, 3) := by decide +kernel
theorem dX12_ways_28 : decode cX12_ways 28 = .ok (.iconst 0, 1) := by decide +kernel
theorem dX12_ways_29 : decode cX12_ways 29 = .ok (.iaload, 1) := by decide +kernel
theorem dX12_ways_30 : decode cX12_ways 30 = .ok (.ishl, 1) := by decide +kernel
theorem dX12_ways_31 : decode cX12_ways 31 = .ok (.iconst 1, 1) := by decide +kernel
theorem dX12_ways_32 : decode cX12_ways 32 = .ok (.isub, 1) := by decide +kernel
theorem dX12_ways_33 : decode cX12_ways 33 = .ok (.istore_n 3, 1) := by decide +kernel
theorem dX12_ways_34 : decode cX12_ways 34 = .ok (.iconst 0, 1) := by decide +kernel
theorem dX12_ways_35 : decode cX12_ways 35 = .ok (.istore 4, 2) := by decide +kernel
theorem dX12_ways_37 : decode cX12_ways 37 = .ok (.iconst 0, 1) := by decide +kernel
theorem dX12_ways_38 : decode cX12_ways 38 = .ok (.istore 5, 2) := by decide +kernel
theorem qq_5_151 : Cond.constant "WrongHoleModel" 45 65536 ∈ TB := mk_tb (ti_5 (List.mem_of_getElem? (i := 151) rfl)) rfl
theorem dX12_ways_40 : decode cX12_ways 40 = .ok (.iload 5, 2) := by decide +kernel
theorem dX12_ways_42 : decode cX12_ways 42 = .ok (.ldc 45, 2) := by decide +kernel
theorem dX12_ways_44 : decode cX12_ways 44 = .ok (.if_icmp .ge 42, 3) := by decide +kernel
theorem dX12_ways_86 : decode cX12_ways 86 = .ok (.iload_n 1, 1) := by decide +kernel
theorem dX12_ways_87 : decode cX12_ways 87 = .ok (.ifCond .ne 5, 3) := by decide +kernel
theorem dX12_ways_92 : decode cX12_ways 92 = .ok (.iload_n 2, 1) := by decide +kernel
theorem dX12_ways_93 : decode cX12_ways 93 = .ok (.ifCond .ne 7, 3) := by decide +kernel
theorem dX12_ways_100 : decode cX12_ways 100 = .ok (.iload_n 1, 1) := by decide +kernel
theorem dX12_ways_101 : decode cX12_ways 101 = .ok (.iconst 1, 1) := by decide +kernel
theorem dX12_ways_102 : decode cX12_ways 102 = .ok (.if_icmp .ne 7, 3) := by decide +kernel
theorem dX12_ways_109 : decode cX12_ways 109 = .ok (.iconst 1, 1) := by decide +kernel
theorem dX12_ways_110 : decode cX12_ways 110 = .ok (.aload_n 0, 1) := by decide +kernel
theorem dX12_ways_111 : decode cX12_ways 111 = .ok (.getfield 39, 3) := by decide +kernel
theorem dX12_ways_114 : decode cX12_ways 114 = .ok (.iconst 0, 1) := by decide +kernel
theorem dX12_ways_115 : decode cX12_ways 115 = .ok (.iaload, 1) := by decide +kernel
theorem dX12_ways_116 : decode cX12_ways 116 = .ok (.ishl, 1) := by decide +kernel
theorem dX12_ways_117 : decode cX12_ways 117 = .ok (.iconst 1, 1) := by decide +kernel
theorem dX12_ways_118 : decode cX12_ways 118 = .ok (.isub, 1) := by decide +kernel
theorem dX12_ways_119 : decode cX12_ways 119 = .ok (.iload 4, 2) := by decide +kernel
theorem dX12_ways_121 : decode cX12_ways 121 = .ok (.iconst (-1), 1) := by decide +kernel
theorem dX12_ways_122 : decode cX12_ways 122 = .ok (.ixor, 1) := by decide +kernel
theorem dX12_ways_123 : decode cX12_ways 123 = .ok (.iand, 1) := by decide +kernel
theorem dX12_ways_124 : decode cX12_ways 124 = .ok (.ireturn, 1) := by decide +kernel
theorem dX12_ways_105 : decode cX12_ways 105 = .ok (.iload_n 3, 1) := by decide +kernel
theorem dX12_ways_106 : decode cX12_ways 106 = .ok (.goto 18, 3) := by decide +kernel
theorem dX12_ways_96 : decode cX12_ways 96 = .ok (.iconst 0, 1) := by decide +kernel
theorem dX12_ways_97 : decode cX12_ways 97 = .ok (.goto 27, 3) := by decide +kernel
theorem dX12_ways_90 : decode cX12_ways 90 = .ok (.iload_n 2, 1) := by decide +kernel
theorem dX12_ways_91 : decode cX12_ways 91 = .ok (.ireturn, 1) := by decide +kernel
theorem dX12_ways_47 : decode cX12_ways 47 = .ok (.aload_n 0, 1) := by decide +kernel
theorem dX12_ways_48 : decode cX12_ways 48 = .ok (.iload 5, 2) := by decide +kernel
theorem dX12_ways_50 : decode cX12_ways 50 = .ok (.invokevirtual 503, 3) := by decide +kernel
theorem qq_8_55 : Cond.code yX12_isWay cX12_isWay 3 (some .boolean) ∈ TB := mk_tb (ti_8 (List.mem_of_getElem? (i := 55) rfl)) rfl
theorem qq_8_52 : Cond.methodLink "WrongHoleModel" 503 yX12_isWay ∈ TB := mk_tb (ti_8 (List.mem_of_getElem? (i := 52) rfl)) rfl
theorem qq_8_54 : Cond.instanceMethod yX12_isWay ∈ TB := mk_tb (ti_8 (List.mem_of_getElem? (i := 54) rfl)) rfl
theorem qs_7_6 : Cond.selects "WrongHoleModel" yX12_isWay yX12_isWay ∈ TB := mk_tb (ti_s (q := (yX12_isWay, 33)) (List.mem_append_right _ (List.mem_append_right _ (List.mem_append_right _ (List.mem_append_right _ (List.mem_append_right _ (List.mem_append_right _ (List.mem_append_right _ (List.mem_of_getElem? (i := 6) rfl))))))))) rfl
theorem dX12_ways_53 : decode cX12_ways 53 = .ok (.ifCond .ne 6, 3) := by decide +kernel
theorem dX12_ways_80 : decode cX12_ways 80 = .ok (.iinc 5 1, 3) := by decide +kernel
theorem dX12_ways_83 : decode cX12_ways 83 = .ok (.goto (-43), 3) := by decide +kernel
theorem dX12_ways_59 : decode cX12_ways 59 = .ok (.iinc 2 1, 3) := by decide +kernel
theorem dX12_ways_62 : decode cX12_ways 62 = .ok (.iload_n 3, 1) := by decide +kernel
theorem dX12_ways_63 : decode cX12_ways 63 = .ok (.iload 5, 2) := by decide +kernel
theorem dX12_ways_65 : decode cX12_ways 65 = .ok (.invokestatic 338, 3) := by decide +kernel
theorem dX12_ways_68 : decode cX12_ways 68 = .ok (.iand, 1) := by decide +kernel
theorem dX12_ways_69 : decode cX12_ways 69 = .ok (.istore_n 3, 1) := by decide +kernel
theorem dX12_ways_70 : decode cX12_ways 70 = .ok (.iload 4, 2) := by decide +kernel
theorem dX12_ways_72 : decode cX12_ways 72 = .ok (.iload 5, 2) := by decide +kernel
theorem dX12_ways_74 : decode cX12_ways 74 = .ok (.invokestatic 338, 3) := by decide +kernel
theorem dX12_ways_77 : decode cX12_ways 77 = .ok (.ior, 1) := by decide +kernel
theorem dX12_ways_78 : decode cX12_ways 78 = .ok (.istore 4, 2) := by decide +kernel
theorem dX12_ways_56 : decode cX12_ways 56 = .ok (.goto 24, 3) := by decide +kernel
set_option maxHeartbeats 4000000 in
set_option maxRecDepth 100000 in
theorem c_M_ways (l : Launch) (D : va_G) (cs : Nat → ClassId) (m0 : Nat) (mtp : Nat) (sta : Int32) (sru : Int32) (msg : Nat) (mln : Nat) (mcl : Nat) (mcs : Nat) (mrd : Nat) (snx : Int32) (swr : Int32) (snu : Int32) (ste : Int32) (sma : Int32) (sde : Int32) (sli : Int32) (mop : Nat) (sod : Int32) (mst : Nat) (sto : Int32) (mwd : Nat) (msd : Nat) (sx_ : Int32) (mws : Nat) (sun : Int32) (mfr : Nat) (mqu : Nat) (miw : Nat) (sfi : Int32) (swa : Int32) (sdx : Int64) (mim : Nat) (mix : Nat) (mmd : Nat) (gsd : Nat → Int32) (a : Int32) (hsi : SI gsd) : Met l yX12_ways (Cond.code yX12_ways cX12_ways 6 (some .int) :: TB) (RM 5 0 0) (va_Pc [.ref m0, .int a] (PRR D cs [(m0, .inr (10, (.ref mtp :: .int sta :: .int sru :: .ref msg :: .ref mln :: .ref mcl :: .ref mcs :: .ref mrd :: .int snx :: .int swr :: .int snu :: .int ste :: .int sma :: .int sde :: .int sli :: .ref mop :: .int sod :: .ref mst :: .int sto :: .ref mwd :: .ref msd :: .int sx_ :: .ref mws :: .int sun :: .ref mfr :: .ref mqu :: .ref miw :: .int sfi :: .int swa :: .long sdx :: .ref mim :: .ref mix :: .ref mmd :: []))), (msd, .inl ((cs 0), 133, .inl gsd))])) (QP (fun v => ∃ x : Int32, v = .int x)) 0 0 (fun _ => False) := by
  refine MER (y := yX12_ways) (cc := cX12_ways) (maxL := 6) (ret := (some .int)) (d := 5) (D := D) (cs := cs) (ws := [(m0, .inr (10, (.ref mtp :: .int sta :: .int sru :: .ref msg :: .ref mln :: .ref mcl :: .ref mcs :: .ref mrd :: .int snx :: .int swr :: .int snu :: .int ste :: .int sma :: .int sde :: .int sli :: .ref mop :: .int sod :: .ref mst :: .int sto :: .ref mwd :: .ref msd :: .int sx_ :: .ref mws :: .int sun :: .ref mfr :: .ref mqu :: .ref miw :: .int sfi :: .int swa :: .long sdx :: .ref mim :: .ref mix :: .ref mmd :: []))), (msd, .inl ((cs 0), 133, .inl gsd))]) (av := [.ref m0, .int a]) (Qc := QP (fun v => ∃ x : Int32, v = .int x)) (by decide) (Nat.le_of_ble_eq_true rfl) ?_
  intro p e s m below meth c ls H hHe hx hb hr hml hown hts hlocks hP hK hN hl
  obtain ⟨locs, hlc⟩ : ∃ z : List Loc, z = [] := ⟨_, rfl⟩
  rw [← hlc]
  have hown : s.vm.findClass "WrongHoleModel" = some m.cls := hown
  have hT : ∀ w ∈ TB, w.before ([.ref m0, .int a] : List Value).toArray s = true := fun w h => hts w (List.mem_cons_of_mem _ h)
  have hl : lv_has ls 6 [(0, .ref m0), (1, .int a)] := hl
  have hP : va_P D vwCl [(m0, .inr (10, (.ref mtp :: .int sta :: .int sru :: .ref msg :: .ref mln :: .ref mcl :: .ref mcs :: .ref mrd :: .int snx :: .int swr :: .int snu :: .int ste :: .int sma :: .int sde :: .int sli :: .ref mop :: .int sod :: .ref mst :: .int sto :: .ref mwd :: .ref msd :: .int sx_ :: .ref mws :: .int sun :: .ref mfr :: .ref mqu :: .ref miw :: .int sfi :: .int swa :: .long sdx :: .ref mim :: .ref mix :: .ref mmd :: []))), (msd, .inl ((cs 0), 133, .inl gsd))] H := hP
  refine lv_aload_n hx hb dX12_ways_0 rfl (lv_at hl 0 rfl) ?_
  have hPc := va_P.sub (ws' := [(m0, .inr (10, (.ref mtp :: .int sta :: .int sru :: .ref msg :: .ref mln :: .ref mcl :: .ref mcs :: .ref mrd :: .int snx :: .int swr :: .int snu :: .int ste :: .int sma :: .int sde :: .int sli :: .ref mop :: .int sod :: .ref mst :: .int sto :: .ref mwd :: .ref msd :: .int sx_ :: .ref mws :: .int sun :: .ref mfr :: .ref mqu :: .ref miw :: .int sfi :: .int swa :: .long sdx :: .ref mim :: .ref mix :: .ref mmd :: []))), (msd, .inl ((cs 0), 133, .inl gsd))]) hP [0, 1] rfl
  refine cl_P (W.runV (As := []) (rest := []) ⟨hx, hb, hml, hown, hts⟩ (c_M_isLift l D cs m0 mtp sta sru msg mln mcl mcs mrd snx swr snu ste sma sde sli mop sod mst sto mwd msd sx_ mws sun mfr mqu miw sfi swa sdx mim mix mmd gsd hsi) ⟨callB_of 0 hts (gd_C qq_7_46) rfl rfl rfl (hT _ qq_1_9) (hT _ qq_7_43) (by decide +kernel) (rm_R rfl rfl), (hT _ qq_7_45), (hT _ qs_5_2)⟩ (pq_V hPc hK hN (ci := 10) (q0 := 0) rfl rfl) rfl rfl hl.1 rfl (lv_room (Nat.le_of_ble_eq_true rfl)) dX12_ways_1 ⟨Nat.le_of_ble_eq_true rfl, Nat.le_of_ble_eq_true rfl⟩) (fun v9 hz_2 => ?_)
  obtain ⟨x_1, rfl, r_3⟩ := hz_2
  refine lv_if_eq (tgt := 19) hx hb dX12_ways_4 (by decide) (fun c_4 => ?_) (fun c_4 => ?_)
  · have r_5 : Rg 0 0 x_1 := Rg.eq_l c_4 r_3.1 (Rg.c (c := 0) (k := 0) rfl) (by decide)
    refine lv_iconst (v := (-1)) hx hb dX12_ways_19 (by decide) ?_
    exact W.iret (v := (-1)) hx hb hr (fun t9 ht9 hW9 => ⟨⟨_, rfl, _, rfl⟩, ht9.trans hHe⟩) (fun _ h9 => by rw [hlc] at h9; exact absurd h9 List.not_mem_nil) dX12_ways_20
  · have r_6 : Rg 1 1 x_1 := Rg.ne c_4 r_3.1 (Rg.c (c := 0) (k := 0) rfl) (by decide)
    refine lv_iload_n hx hb dX12_ways_7 rfl (lv_at hl 1 rfl) ?_
    refine lv_i2l (v := Int32.toInt64 a) hx hb dX12_ways_8 rfl ?_
    refine lv_topl (fun x_7 e_8 => ?_)
    refine lv_lconst (v := 0) hx hb dX12_ways_9 (by decide) ?_
    refine lv_ldc2 (v := 2) hx hb hown (hT _ qq_7_38) dX12_ways_10 ?_
    have hPc := va_P.sub (ws' := []) hP [] rfl
    refine cl_P (W.runS (As := [.long x_7, .long 0, .long 2]) (rest := []) ⟨hx, hb, hml, hown, hts⟩ (c_M_in l D cs x_7 0 2) ⟨callB_of 3 hts (gd_C qq_6_97) rfl rfl rfl (hT _ qq_1_9) (hT _ qq_6_95) (by decide +kernel) (rm_R rfl rfl), (hT _ qq_6_96)⟩ (pq_S hPc hK hN) rfl rfl hl.1 rfl (lv_room (Nat.le_of_ble_eq_true rfl)) dX12_ways_13 ⟨Nat.le_of_ble_eq_true rfl, Nat.le_of_ble_eq_true rfl⟩) (fun v9 hz_10 => ?_)
    obtain ⟨x_9, rfl, r_11⟩ := hz_10
    refine lv_if_ne (tgt := 21) hx hb dX12_ways_16 (by decide) (fun c_12 => ?_) (fun c_12 => ?_)
    · have r_13 : Rg 1 1 x_9 := Rg.ne c_12 r_11.1 (Rg.c (c := 0) (k := 0) rfl) (by decide)
      have r_14 : Rg 0 2 a := in_rg e_8 (r_11.2 c_12) (by decide) (by decide)
      refine lv_iconst (v := 0) hx hb dX12_ways_21 (by decide) ?_
      refine lv_istore_n (lv' := [(2, .int 0), (0, .ref m0), (1, .int a)]) hx hb dX12_ways_22 rfl hl (by decide) rfl (fun ls hl => ?_)
      refine lv_iconst (v := 1) hx hb dX12_ways_23 (by decide) ?_
      refine lv_aload_n hx hb dX12_ways_24 rfl (lv_at hl 1 rfl) ?_
      refine va_get (D := D) (ci := 10) (v := .ref msd) (C := "WrongHoleModel") (T := TX12) (N := 33) hx hb hts (iq_RX12 _) hown hK hP 0 rfl rfl 20 (by decide) (hT _ qq_5_172) (fun _ h9 => h9) rfl dX12_ways_25 ?_
      refine lv_iconst (v := 0) hx hb dX12_ways_28 (by decide) ?_
      have hi_16 : vp_in 0 133 := vi_c rfl
      refine va_iald hx hb hK hP 1 0 rfl rfl hi_16 dX12_ways_29 ?_
      refine lv_topi (fun x_17 e_18 => ?_)
      have r_19 : Rg 0 8 x_17 := Rg.of e_18 (hsi.a0)
      refine lv_ishl hx hb dX12_ways_30 ?_
      refine lv_topi (fun x_20 e_21 => ?_)
      have r_22 : Rg 0 256 x_20 := Rg.shl (ha := 1) (k := 8) e_21 (Rg.wk (Rg.c (c := 1) (k := 1) rfl) (by decide)) (Rg.wk r_19 (by decide)) (by decide) (by decide)
      refine lv_iconst (v := 1) hx hb dX12_ways_31 (by decide) ?_
      refine lv_isub hx hb dX12_ways_32 ?_
      refine lv_topi (fun x_23 e_24 => ?_)
      have r_25 : Rg (-1) 255 x_23 := Rg.sub e_24 r_22 (Rg.c (c := 1) (k := 1) rfl) (by decide)
      refine lv_istore_n (lv' := [(3, .int x_23), (2, .int 0), (0, .ref m0), (1, .int a)]) hx hb dX12_ways_33 rfl hl (by decide) rfl (fun ls hl => ?_)
      refine lv_iconst (v := 0) hx hb dX12_ways_34 (by decide) ?_
      refine lv_istore (lv' := [(4, .int 0), (3, .int x_23), (2, .int 0), (0, .ref m0), (1, .int a)]) hx hb dX12_ways_35 hl (by decide) rfl (fun ls hl => ?_)
      refine lv_iconst (v := 0) hx hb dX12_ways_37 (by decide) ?_
      refine lv_istore (lv' := [(5, .int 0), (4, .int 0), (3, .int x_23), (2, .int 0), (0, .ref m0), (1, .int a)]) hx hb dX12_ways_38 hl (by decide) rfl (fun ls hl => ?_)
      refine w_wh (σ := (Int32) × (Int32) × (Int32) × (Int32)) (fun x9 H locs ls => match x9 with | (v_60, v_61, v_62, v_63) => Rg 0 65536 v_60 ∧ Rg 0 255 v_61 ∧ Rg (-1) 255 v_62 ∧ H = s.heap ∧ locs = [] ∧ va_P D vwCl [(m0, .inr (10, (.ref mtp :: .int sta :: .int sru :: .ref msg :: .ref mln :: .ref mcl :: .ref mcs :: .ref mrd :: .int snx :: .int swr :: .int snu :: .int ste :: .int sma :: .int sde :: .int sli :: .ref mop :: .int sod :: .ref mst :: .int sto :: .ref mwd :: .ref msd :: .int sx_ :: .ref mws :: .int sun :: .ref mfr :: .ref mqu :: .ref miw :: .int sfi :: .int swa :: .long sdx :: .ref mim :: .ref mix :: .ref mmd :: []))), (msd, .inl ((cs 0), 133, .inl gsd))] H ∧ lv_has ls 6 [(5, .int v_60), (4, .int v_61), (3, .int v_62), (2, .int v_63), (0, .ref m0), (1, .int a)]) (fun x9 => match x9 with | (v_60, v_61, v_62, v_63) => (65536 - Int32.toInt v_60).toNat) 40 ?_ (0, 0, x_23, 0) H locs ls ⟨(Rg.wk (lo2 := 0) (hi2 := 65536) (Rg.c (c := 0) (k := 0) rfl) (by decide)), (Rg.wk (lo2 := 0) (hi2 := 255) (Rg.c (c := 0) (k := 0) rfl) (by decide)), r_25, hHe, hlc, hP, lv_sub hl [0, 1, 2, 3, 4, 5] rfl⟩
      rintro ⟨v_60, v_61, v_62, v_63⟩ H locs ls ⟨r_1007, r_1008, r_1009, hHe, hlc, hP, hl⟩ ih_1006
      refine lv_iload hx hb dX12_ways_40 (lv_at hl 0 rfl) ?_
      refine lv_ldc (v := 65536) hx hb hown (hT _ qq_5_151) dX12_ways_42 ?_
      refine lv_icmp_ge (tgt := 86) hx hb dX12_ways_44 (by decide) (fun c_1010 => ?_) (fun c_1010 => ?_)
      · have r_1011 : Rg 65536 65536 v_60 := Rg.le_r c_1010 (Rg.c (c := 65536) (k := 65536) rfl) r_1007 (by decide)
        refine lv_iload_n hx hb dX12_ways_86 rfl (lv_at hl 5 rfl) ?_
        refine lv_if_ne (tgt := 92) hx hb dX12_ways_87 (by decide) (fun c_1053 => ?_) (fun c_1053 => ?_)
        · have r_1054 : Rg 1 2 a := Rg.ne c_1053 r_14 (Rg.c (c := 0) (k := 0) rfl) (by decide)
          refine lv_iload_n hx hb dX12_ways_92 rfl (lv_at hl 3 rfl) ?_
          refine lv_if_ne (tgt := 100) hx hb dX12_ways_93 (by decide) (fun c_1056 => ?_) (fun c_1056 => ?_)
          · refine lv_iload_n hx hb dX12_ways_100 rfl (lv_at hl 5 rfl) ?_
            refine lv_iconst (v := 1) hx hb dX12_ways_101 (by decide) ?_
            refine lv_icmp_ne (tgt := 109) hx hb dX12_ways_102 (by decide) (fun c_1074 => ?_) (fun c_1074 => ?_)
            · have r_1075 : Rg 2 2 a := Rg.ne c_1074 r_1054 (Rg.c (c := 1) (k := 1) rfl) (by decide)
              refine lv_iconst (v := 1) hx hb dX12_ways_109 (by decide) ?_
              refine lv_aload_n hx hb dX12_ways_110 rfl (lv_at hl 4 rfl) ?_
              refine va_get (D := D) (ci := 10) (v := .ref msd) (C := "WrongHoleModel") (T := TX12) (N := 33) hx hb hts (iq_RX12 _) hown hK hP 0 rfl rfl 20 (by decide) (hT _ qq_5_172) (fun _ h9 => h9) rfl dX12_ways_111 ?_
              refine lv_iconst (v := 0) hx hb dX12_ways_114 (by decide) ?_
              have hi_1090 : vp_in 0 133 := vi_c rfl
              refine va_iald hx hb hK hP 1 0 rfl rfl hi_1090 dX12_ways_115 ?_
              refine lv_topi (fun x_1091 e_1092 => ?_)
              have r_1093 : Rg 0 8 x_1091 := Rg.of e_1092 (hsi.a0)
              refine lv_ishl hx hb dX12_ways_116 ?_
              refine lv_topi (fun x_1094 e_1095 => ?_)
              have r_1096 : Rg 0 256 x_1094 := Rg.shl (ha := 1) (k := 8) e_1095 (Rg.wk (Rg.c (c := 1) (k := 1) rfl) (by decide)) (Rg.wk r_1093 (by decide)) (by decide) (by decide)
              refine lv_iconst (v := 1) hx hb dX12_ways_117 (by decide) ?_
              refine lv_isub hx hb dX12_ways_118 ?_
              refine lv_topi (fun x_1097 e_1098 => ?_)
              have r_1099 : Rg (-1) 255 x_1097 := Rg.sub e_1098 r_1096 (Rg.c (c := 1) (k := 1) rfl) (by decide)
              refine lv_iload hx hb dX12_ways_119 (lv_at hl 1 rfl) ?_
              refine lv_iconst (v := (-1)) hx hb dX12_ways_121 (by decide) ?_
              refine lv_ixor hx hb dX12_ways_122 ?_
              refine lv_topi (fun x_1100 e_1101 => ?_)
              refine lv_iand hx hb dX12_ways_123 ?_
              refine lv_topi (fun x_1102 e_1103 => ?_)
              exact W.iret (v := x_1102) hx hb hr (fun t9 ht9 hW9 => ⟨⟨_, rfl, _, rfl⟩, ht9.trans hHe⟩) (fun _ h9 => by rw [hlc] at h9; exact absurd h9 List.not_mem_nil) dX12_ways_124
            · have r_1076 : Rg 1 1 a := Rg.eq_l c_1074 r_1054 (Rg.c (c := 1) (k := 1) rfl) (by decide)
              refine lv_iload_n hx hb dX12_ways_105 rfl (lv_at hl 2 rfl) ?_
              refine lv_goto (tgt := 124) hx hb dX12_ways_106 (by decide) ?_
              exact W.iret (v := v_62) hx hb hr (fun t9 ht9 hW9 => ⟨⟨_, rfl, _, rfl⟩, ht9.trans hHe⟩) (fun _ h9 => by rw [hlc] at h9; exact absurd h9 List.not_mem_nil) dX12_ways_124
          · have r_1057 : Rg 0 0 v_63 := Rg.eq_l c_1056 (Rg.top v_63) (Rg.c (c := 0) (k := 0) rfl) (by decide)
            refine lv_iconst (v := 0) hx hb dX12_ways_96 (by decide) ?_
            refine lv_goto (tgt := 124) hx hb dX12_ways_97 (by decide) ?_
            exact W.iret (v := 0) hx hb hr (fun t9 ht9 hW9 => ⟨⟨_, rfl, _, rfl⟩, ht9.trans hHe⟩) (fun _ h9 => by rw [hlc] at h9; exact absurd h9 List.not_mem_nil) dX12_ways_124
        · have r_1055 : Rg 0 0 a := Rg.eq_l c_1053 r_14 (Rg.c (c := 0) (k := 0) rfl) (by decide)
          refine lv_iload_n hx hb dX12_ways_90 rfl (lv_at hl 3 rfl) ?_
          exact W.iret (v := v_63) hx hb hr (fun t9 ht9 hW9 => ⟨⟨_, rfl, _, rfl⟩, ht9.trans hHe⟩) (fun _ h9 => by rw [hlc] at h9; exact absurd h9 List.not_mem_nil) dX12_ways_91
      · have r_1012 : Rg 0 65535 v_60 := Rg.lt_l (nle_lt c_1010) r_1007 (Rg.c (c := 65536) (k := 65536) rfl) (by decide)
        refine lv_aload_n hx hb dX12_ways_47 rfl (lv_at hl 4 rfl) ?_
        refine lv_iload hx hb dX12_ways_48 (lv_at hl 0 rfl) ?_
        have hPc := va_P.sub (ws' := [(m0, .inr (10, (.ref mtp :: .int sta :: .int sru :: .ref msg :: .ref mln :: .ref mcl :: .ref mcs :: .ref mrd :: .int snx :: .int swr :: .int snu :: .int ste :: .int sma :: .int sde :: .int sli :: .ref mop :: .int sod :: .ref mst :: .int sto :: .ref mwd :: .ref msd :: .int sx_ :: .ref mws :: .int sun :: .ref mfr :: .ref mqu :: .ref miw :: .int sfi :: .int swa :: .long sdx :: .ref mim :: .ref mix :: .ref mmd :: []))), (msd, .inl ((cs 0), 133, .inl gsd))]) hP [0, 1] rfl
        refine cl_P (W.runV (As := [.int v_60]) (rest := []) ⟨hx, hb, hml, hown, hts⟩ (c_M_isWay l D cs m0 mtp sta sru msg mln mcl mcs mrd snx swr snu ste sma sde sli mop sod mst sto mwd msd sx_ mws sun mfr mqu miw sfi swa sdx mim mix mmd gsd v_60 hsi r_1012) ⟨callB_of 1 hts (gd_C qq_8_55) rfl rfl rfl (hT _ qq_1_9) (hT _ qq_8_52) (by decide +kernel) (rm_R rfl rfl), (hT _ qq_8_54), (hT _ qs_7_6)⟩ (pq_V hPc hK hN (ci := 10) (q0 := 0) rfl rfl) rfl rfl hl.1 rfl (lv_room (Nat.le_of_ble_eq_true rfl)) dX12_ways_50 ⟨Nat.le_of_ble_eq_true rfl, Nat.le_of_ble_eq_true rfl⟩) (fun v9 hz_1105 => ?_)
        obtain ⟨x_1104, rfl, r_1106⟩ := hz_1105
        refine w_cut (σ := (Int32) × (Int32) × (Int32)) (fun x9 H locs ls => match x9 with | (v_1124, v_1125, v_1126) => Rg 0 255 v_1124 ∧ Rg (-1) 255 v_1125 ∧ H = s.heap ∧ locs = [] ∧ va_P D vwCl [(m0, .inr (10, (.ref mtp :: .int sta :: .int sru :: .ref msg :: .ref mln :: .ref mcl :: .ref mcs :: .ref mrd :: .int snx :: .int swr :: .int snu :: .int ste :: .int sma :: .int sde :: .int sli :: .ref mop :: .int sod :: .ref mst :: .int sto :: .ref mwd :: .ref msd :: .int sx_ :: .ref mws :: .int sun :: .ref mfr :: .ref mqu :: .ref miw :: .int sfi :: .int swa :: .long sdx :: .ref mim :: .ref mix :: .ref mmd :: []))), (msd, .inl ((cs 0), 133, .inl gsd))] H ∧ lv_has ls 6 [(4, .int v_1124), (3, .int v_1125), (2, .int v_1126), (5, .int v_60), (0, .ref m0), (1, .int a)]) 80 (fun x9 => match x9 with | (v_1124, v_1125, v_1126) => []) ?_ (fun hj_1127 => ?_)
        · rintro ⟨v_1124, v_1125, v_1126⟩ H locs ls ⟨r_1128, r_1129, hHe, hlc, hP, hl⟩
          obtain ⟨x_1130, e_1131⟩ : ∃ z : Int32, z = v_60 + Int32.ofInt 1 := ⟨_, rfl⟩
          have r_1132 : Rg 1 65536 x_1130 := Rg.add e_1131 r_1012 (Rg.c (c := Int32.ofInt 1) (k := 1) rfl) (by decide)
          refine lv_iinc (v := x_1130) (lv' := [(5, .int x_1130), (4, .int v_1124), (3, .int v_1125), (2, .int v_1126), (0, .ref m0), (1, .int a)]) hx hb dX12_ways_80 hl (k := 3) rfl (e_1131.symm) (by decide) rfl (fun ls hl => ?_)
          refine lv_goto (tgt := 40) hx hb dX12_ways_83 (by decide) ?_
          exact ih_1006 (x_1130, v_1124, v_1125, v_1126) _ _ _ ⟨(Rg.wk (lo2 := 0) (hi2 := 65536) r_1132 (by decide)), r_1128, r_1129, hHe, hlc, hP, lv_sub hl [0, 1, 2, 3, 4, 5] rfl⟩ (ms_up e_1131 r_1012 (Rg.c (c := Int32.ofInt 1) (k := 1) rfl) (by decide))
        · refine lv_if_ne (tgt := 59) hx hb dX12_ways_53 (by decide) (fun c_1107 => ?_) (fun c_1107 => ?_)
          · have r_1108 : Rg 1 1 x_1104 := Rg.ne c_1107 r_1106 (Rg.c (c := 0) (k := 0) rfl) (by decide)
            obtain ⟨x_1133, e_1134⟩ : ∃ z : Int32, z = v_63 + Int32.ofInt 1 := ⟨_, rfl⟩
            refine lv_iinc (v := x_1133) (lv' := [(2, .int x_1133), (5, .int v_60), (4, .int v_61), (3, .int v_62), (0, .ref m0), (1, .int a)]) hx hb dX12_ways_59 hl (k := 3) rfl (e_1134.symm) (by decide) rfl (fun ls hl => ?_)
            refine lv_iload_n hx hb dX12_ways_62 rfl (lv_at hl 3 rfl) ?_
            refine lv_iload hx hb dX12_ways_63 (lv_at hl 1 rfl) ?_
            have hPc := va_P.sub (ws' := []) hP [] rfl
            refine cl_V (W.runS (As := [.int v_60]) (rest := [.int v_62]) ⟨hx, hb, hml, hown, hts⟩ (c_M_inOf l D cs v_60 r_1012) ⟨callB_of 1 hts (gd_C qq_7_58) rfl rfl rfl (hT _ qq_1_9) (hT _ qq_7_56) (by decide +kernel) (rm_R rfl rfl), (hT _ qq_7_57)⟩ (pq_S hPc hK hN) rfl rfl hl.1 rfl (lv_room (Nat.le_of_ble_eq_true rfl)) dX12_ways_65 ⟨Nat.le_of_ble_eq_true rfl, Nat.le_of_ble_eq_true rfl⟩) ?_
            refine lv_topi (fun x_1135 e_1136 => ?_)
            have r_1137 : Rg 0 255 x_1135 := Rg.of e_1136 (rg_held _)
            refine lv_iand hx hb dX12_ways_68 ?_
            refine lv_topi (fun x_1138 e_1139 => ?_)
            have r_1140 : Rg 0 255 x_1138 := Rg.and e_1139 r_1137 (by decide)
            refine lv_istore_n (lv' := [(3, .int x_1138), (2, .int x_1133), (5, .int v_60), (4, .int v_61), (0, .ref m0), (1, .int a)]) hx hb dX12_ways_69 rfl hl (by decide) rfl (fun ls hl => ?_)
            refine lv_iload hx hb dX12_ways_70 (lv_at hl 3 rfl) ?_
            refine lv_iload hx hb dX12_ways_72 (lv_at hl 2 rfl) ?_
            have hPc := va_P.sub (ws' := []) hP [] rfl
            refine cl_V (W.runS (As := [.int v_60]) (rest := [.int v_61]) ⟨hx, hb, hml, hown, hts⟩ (c_M_inOf l D cs v_60 r_1012) ⟨callB_of 1 hts (gd_C qq_7_58) rfl rfl rfl (hT _ qq_1_9) (hT _ qq_7_56) (by decide +kernel) (rm_R rfl rfl), (hT _ qq_7_57)⟩ (pq_S hPc hK hN) rfl rfl hl.1 rfl (lv_room (Nat.le_of_ble_eq_true rfl)) dX12_ways_74 ⟨Nat.le_of_ble_eq_true rfl, Nat.le_of_ble_eq_true rfl⟩) ?_
            refine lv_topi (fun x_1141 e_1142 => ?_)
            have r_1143 : Rg 0 255 x_1141 := Rg.of e_1142 (rg_held _)
            refine lv_ior hx hb dX12_ways_77 ?_
            refine lv_topi (fun x_1144 e_1145 => ?_)
            have r_1146 : Rg 0 255 x_1144 := Rg.or (k := 8) e_1145 r_1008 r_1143 (by decide) (by decide)
            refine lv_istore (lv' := [(4, .int x_1144), (3, .int x_1138), (2, .int x_1133), (5, .int v_60), (0, .ref m0), (1, .int a)]) hx hb dX12_ways_78 hl (by decide) rfl (fun ls hl => ?_)
            exact hj_1127 (x_1144, x_1138, x_1133) _ _ _ ⟨r_1146, (Rg.wk (lo2 := (-1)) (hi2 := 255) r_1140 (by decide)), hHe, hlc, hP, lv_sub hl [0, 1, 2, 3, 4, 5] rfl⟩
          · have r_1109 : Rg 0 0 x_1104 := Rg.eq_l c_1107 r_1106 (Rg.c (c := 0) (k := 0) rfl) (by decide)
            refine lv_goto (tgt := 80) hx hb dX12_ways_56 (by decide) ?_
            exact hj_1127 (v_61, v_62, v_63) _ _ _ ⟨r_1008, r_1009, hHe, hlc, hP, lv_sub hl [1, 2, 3, 0, 4, 5] rfl⟩
    · have r_15 : Rg 0 0 x_9 := Rg.eq_l c_12 r_11.1 (Rg.c (c := 0) (k := 0) rfl) (by decide)
      refine lv_iconst (v := (-1)) hx hb dX12_ways_19 (by decide) ?_
      exact W.iret (v := (-1)) hx hb hr (fun t9 ht9 hW9 => ⟨⟨_, rfl, _, rfl⟩, ht9.trans hHe⟩) (fun _ h9 => by rw [hlc] at h9; exact absurd h9 List.not_mem_nil) dX12_ways_20
