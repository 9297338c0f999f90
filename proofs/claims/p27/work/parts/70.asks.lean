theorem dX12_button_0 : decode cX12_button 0 = .ok (.aload_n 0, 1) := by decide +kernel
theorem dX12_button_1 : decode cX12_button 1 = .ok (.iload_n 1, 1) := by decide +kernel
theorem dX12_button_2 : decode cX12_button 2 = .ok (.invokevirtual 365, 3) := by decide +kernel
theorem dX12_button_5 : decode cX12_button 5 = .ok (.ifCond .eq 15, 3) := by decide +kernel
theorem dX12_button_20 : decode cX12_button 20 = .ok (.bipush (-2), 2) := by decide +kernel
theorem dX12_button_22 : decode cX12_button 22 = .ok (.ireturn, 1) := by decide +kernel
theorem dX12_button_8 : decode cX12_button 8 = .ok (.iload_n 2, 1) := by decide +kernel
theorem dX12_button_9 : decode cX12_button 9 = .ok (.i2l, 1) := by decide +kernel
theorem dX12_button_10 : decode cX12_button 10 = .ok (.lconst 0, 1) := by decide +kernel
theorem dX12_button_11 : decode cX12_button 11 = .ok (.ldc2_w 393, 3) := by decide +kernel
theorem qq_7_5 : Cond.constantLong "WrongHoleModel" 393 7 ∈ TB := mk_tb (ti_7 (List.mem_of_getElem? (i := 5) rfl)) rfl
theorem dX12_button_14 : decode cX12_button 14 = .ok (.invokestatic 104, 3) := by decide +kernel
theorem dX12_button_17 : decode cX12_button 17 = .ok (.ifCond .ne 6, 3) := by decide +kernel
theorem dX12_button_23 : decode cX12_button 23 = .ok (.iload_n 2, 1) := by decide +kernel
theorem dX12_button_24 : decode cX12_button 24 = .ok (.tableswitch 113 0 6 #[44, 54, 61, 68, 81, 94, 101], 44) := by decide +kernel
theorem sw_0_6 (v : Int32) : (Int32.toInt v < 0 ∨ 6 < Int32.toInt v) ∨ v = 0 ∨ v = 1 ∨ v = 2 ∨ v = 3 ∨ v = 4 ∨ v = 5 ∨ v = 6 := by
  simp only [← Int32.toInt_inj]
  simp (config := { decide := true }) only [show Int32.toInt 0 = 0 from rfl, show Int32.toInt 1 = 1 from rfl, show Int32.toInt 2 = 2 from rfl, show Int32.toInt 3 = 3 from rfl, show Int32.toInt 4 = 4 from rfl, show Int32.toInt 5 = 5 from rfl, show Int32.toInt 6 = 6 from rfl]
  omega
theorem dX12_button_137 : decode cX12_button 137 = .ok (.aload_n 0, 1) := by decide +kernel
theorem dX12_button_138 : decode cX12_button 138 = .ok (.iload_n 1, 1) := by decide +kernel
theorem dX12_button_139 : decode cX12_button 139 = .ok (.invokevirtual 359, 3) := by decide +kernel
theorem dX12_button_142 : decode cX12_button 142 = .ok (.ifCond .eq 7, 3) := by decide +kernel
theorem dX12_button_149 : decode cX12_button 149 = .ok (.iconst 0, 1) := by decide +kernel
theorem dX12_button_150 : decode cX12_button 150 = .ok (.ireturn, 1) := by decide +kernel
theorem dX12_button_145 : decode cX12_button 145 = .ok (.iconst 1, 1) := by decide +kernel
theorem dX12_button_146 : decode cX12_button 146 = .ok (.goto 4, 3) := by decide +kernel
theorem dX12_button_68 : decode cX12_button 68 = .ok (.aload_n 0, 1) := by decide +kernel
theorem dX12_button_69 : decode cX12_button 69 = .ok (.getfield 39, 3) := by decide +kernel
theorem dX12_button_72 : decode cX12_button 72 = .ok (.bipush 10, 2) := by decide +kernel
theorem dX12_button_74 : decode cX12_button 74 = .ok (.iload_n 1, 1) := by decide +kernel
theorem dX12_button_75 : decode cX12_button 75 = .ok (.iadd, 1) := by decide +kernel
theorem dX12_button_76 : decode cX12_button 76 = .ok (.iaload, 1) := by decide +kernel
theorem dX12_button_77 : decode cX12_button 77 = .ok (.ireturn, 1) := by decide +kernel
theorem dX12_button_78 : decode cX12_button 78 = .ok (.aload_n 0, 1) := by decide +kernel
theorem dX12_button_79 : decode cX12_button 79 = .ok (.iload_n 1, 1) := by decide +kernel
theorem dX12_button_80 : decode cX12_button 80 = .ok (.iconst 0, 1) := by decide +kernel
theorem dX12_button_81 : decode cX12_button 81 = .ok (.invokevirtual 319, 3) := by decide +kernel
theorem dX12_button_84 : decode cX12_button 84 = .ok (.ireturn, 1) := by decide +kernel
theorem dX12_button_85 : decode cX12_button 85 = .ok (.aload_n 0, 1) := by decide +kernel
theorem dX12_button_86 : decode cX12_button 86 = .ok (.iload_n 1, 1) := by decide +kernel
theorem dX12_button_87 : decode cX12_button 87 = .ok (.iconst 1, 1) := by decide +kernel
theorem dX12_button_88 : decode cX12_button 88 = .ok (.invokevirtual 319, 3) := by decide +kernel
theorem dX12_button_91 : decode cX12_button 91 = .ok (.ireturn, 1) := by decide +kernel
theorem dX12_button_92 : decode cX12_button 92 = .ok (.aload_n 0, 1) := by decide +kernel
theorem dX12_button_93 : decode cX12_button 93 = .ok (.iload_n 1, 1) := by decide +kernel
theorem dX12_button_94 : decode cX12_button 94 = .ok (.iconst 2, 1) := by decide +kernel
theorem dX12_button_95 : decode cX12_button 95 = .ok (.invokevirtual 319, 3) := by decide +kernel
theorem dX12_button_98 : decode cX12_button 98 = .ok (.aload_n 0, 1) := by decide +kernel
theorem dX12_button_99 : decode cX12_button 99 = .ok (.iload_n 1, 1) := by decide +kernel
theorem dX12_button_100 : decode cX12_button 100 = .ok (.invokevirtual 329, 3) := by decide +kernel
theorem dX12_button_103 : decode cX12_button 103 = .ok (.iadd, 1) := by decide +kernel
theorem dX12_button_104 : decode cX12_button 104 = .ok (.ireturn, 1) := by decide +kernel
theorem dX12_button_105 : decode cX12_button 105 = .ok (.aload_n 0, 1) := by decide +kernel
theorem dX12_button_106 : decode cX12_button 106 = .ok (.iload_n 1, 1) := by decide +kernel
theorem dX12_button_107 : decode cX12_button 107 = .ok (.iconst 3, 1) := by decide +kernel
theorem dX12_button_108 : decode cX12_button 108 = .ok (.invokevirtual 319, 3) := by decide +kernel
theorem dX12_button_111 : decode cX12_button 111 = .ok (.aload_n 0, 1) := by decide +kernel
theorem dX12_button_112 : decode cX12_button 112 = .ok (.iload_n 1, 1) := by decide +kernel
theorem dX12_button_113 : decode cX12_button 113 = .ok (.invokevirtual 329, 3) := by decide +kernel
theorem dX12_button_116 : decode cX12_button 116 = .ok (.iadd, 1) := by decide +kernel
theorem dX12_button_117 : decode cX12_button 117 = .ok (.ireturn, 1) := by decide +kernel
theorem dX12_button_118 : decode cX12_button 118 = .ok (.aload_n 0, 1) := by decide +kernel
theorem dX12_button_119 : decode cX12_button 119 = .ok (.iload_n 1, 1) := by decide +kernel
theorem dX12_button_120 : decode cX12_button 120 = .ok (.iconst 4, 1) := by decide +kernel
theorem dX12_button_121 : decode cX12_button 121 = .ok (.invokevirtual 319, 3) := by decide +kernel
theorem dX12_button_124 : decode cX12_button 124 = .ok (.ireturn, 1) := by decide +kernel
theorem dX12_button_125 : decode cX12_button 125 = .ok (.aload_n 0, 1) := by decide +kernel
theorem dX12_button_126 : decode cX12_button 126 = .ok (.iload_n 1, 1) := by decide +kernel
theorem dX12_button_127 : decode cX12_button 127 = .ok (.aload_n 0, 1) := by decide +kernel
theorem dX12_button_128 : decode cX12_button 128 = .ok (.getfield 39, 3) := by decide +kernel
theorem dX12_button_131 : decode cX12_button 131 = .ok (.iconst 3, 1) := by decide +kernel
theorem dX12_button_132 : decode cX12_button 132 = .ok (.iaload, 1) := by decide +kernel
theorem dX12_button_133 : decode cX12_button 133 = .ok (.invokevirtual 390, 3) := by decide +kernel
theorem dX12_button_136 : decode cX12_button 136 = .ok (.ireturn, 1) := by decide +kernel
set_option maxHeartbeats 4000000 in
set_option maxRecDepth 100000 in
theorem c_M_button (l : Launch) (D : va_G) (cs : Nat → ClassId) (m0 : Nat) (mtp : Nat) (sta : Int32) (sru : Int32) (msg : Nat) (mln : Nat) (mcl : Nat) (mcs : Nat) (mrd : Nat) (snx : Int32) (swr : Int32) (snu : Int32) (ste : Int32) (sma : Int32) (sde : Int32) (sli : Int32) (mop : Nat) (sod : Int32) (mst : Nat) (sto : Int32) (mwd : Nat) (msd : Nat) (sx_ : Int32) (mws : Nat) (sun : Int32) (mfr : Nat) (mqu : Nat) (miw : Nat) (sfi : Int32) (swa : Int32) (sdx : Int64) (mim : Nat) (mix : Nat) (mmd : Nat) (gsd : Nat → Int32) (b : Int32) (a : Int32) (hsi : SI gsd) : Met l yX12_button (Cond.code yX12_button cX12_button 3 (some .int) :: TB) (RM 3 0 0) (va_Pc [.ref m0, .int b, .int a] (PRR D cs [(m0, .inr (10, (.ref mtp :: .int sta :: .int sru :: .ref msg :: .ref mln :: .ref mcl :: .ref mcs :: .ref mrd :: .int snx :: .int swr :: .int snu :: .int ste :: .int sma :: .int sde :: .int sli :: .ref mop :: .int sod :: .ref mst :: .int sto :: .ref mwd :: .ref msd :: .int sx_ :: .ref mws :: .int sun :: .ref mfr :: .ref mqu :: .ref miw :: .int sfi :: .int swa :: .long sdx :: .ref mim :: .ref mix :: .ref mmd :: []))), (msd, .inl ((cs 0), 133, .inl gsd))])) (QP (fun v => ∃ x : Int32, v = .int x)) 0 0 (fun _ => False) := by
  refine MER (y := yX12_button) (cc := cX12_button) (maxL := 3) (ret := (some .int)) (d := 3) (D := D) (cs := cs) (ws := [(m0, .inr (10, (.ref mtp :: .int sta :: .int sru :: .ref msg :: .ref mln :: .ref mcl :: .ref mcs :: .ref mrd :: .int snx :: .int swr :: .int snu :: .int ste :: .int sma :: .int sde :: .int sli :: .ref mop :: .int sod :: .ref mst :: .int sto :: .ref mwd :: .ref msd :: .int sx_ :: .ref mws :: .int sun :: .ref mfr :: .ref mqu :: .ref miw :: .int sfi :: .int swa :: .long sdx :: .ref mim :: .ref mix :: .ref mmd :: []))), (msd, .inl ((cs 0), 133, .inl gsd))]) (av := [.ref m0, .int b, .int a]) (Qc := QP (fun v => ∃ x : Int32, v = .int x)) (by decide) (Nat.le_of_ble_eq_true rfl) ?_
  intro p e s m below meth c ls H hHe hx hb hr hml hown hts hlocks hP hK hN hl
  obtain ⟨locs, hlc⟩ : ∃ z : List Loc, z = [] := ⟨_, rfl⟩
  rw [← hlc]
  have hown : s.vm.findClass "WrongHoleModel" = some m.cls := hown
  have hT : ∀ w ∈ TB, w.before ([.ref m0, .int b, .int a] : List Value).toArray s = true := fun w h => hts w (List.mem_cons_of_mem _ h)
  have hl : lv_has ls 3 [(0, .ref m0), (1, .int b), (2, .int a)] := hl
  have hP : va_P D vwCl [(m0, .inr (10, (.ref mtp :: .int sta :: .int sru :: .ref msg :: .ref mln :: .ref mcl :: .ref mcs :: .ref mrd :: .int snx :: .int swr :: .int snu :: .int ste :: .int sma :: .int sde :: .int sli :: .ref mop :: .int sod :: .ref mst :: .int sto :: .ref mwd :: .ref msd :: .int sx_ :: .ref mws :: .int sun :: .ref mfr :: .ref mqu :: .ref miw :: .int sfi :: .int swa :: .long sdx :: .ref mim :: .ref mix :: .ref mmd :: []))), (msd, .inl ((cs 0), 133, .inl gsd))] H := hP
  refine lv_aload_n hx hb dX12_button_0 rfl (lv_at hl 0 rfl) ?_
  refine lv_iload_n hx hb dX12_button_1 rfl (lv_at hl 1 rfl) ?_
  have hPc := va_P.sub (ws' := [(m0, .inr (10, (.ref mtp :: .int sta :: .int sru :: .ref msg :: .ref mln :: .ref mcl :: .ref mcs :: .ref mrd :: .int snx :: .int swr :: .int snu :: .int ste :: .int sma :: .int sde :: .int sli :: .ref mop :: .int sod :: .ref mst :: .int sto :: .ref mwd :: .ref msd :: .int sx_ :: .ref mws :: .int sun :: .ref mfr :: .ref mqu :: .ref miw :: .int sfi :: .int swa :: .long sdx :: .ref mim :: .ref mix :: .ref mmd :: []))), (msd, .inl ((cs 0), 133, .inl gsd))]) hP [0, 1] rfl
  refine cl_P (W.runV (As := [.int b]) (rest := []) ⟨hx, hb, hml, hown, hts⟩ (c_M_isButton l D cs m0 mtp sta sru msg mln mcl mcs mrd snx swr snu ste sma sde sli mop sod mst sto mwd msd sx_ mws sun mfr mqu miw sfi swa sdx mim mix mmd gsd b hsi) ⟨callB_of 1 hts (gd_C qq_7_4) rfl rfl rfl (hT _ qq_1_9) (hT _ qq_7_1) (by decide +kernel) (rm_R rfl rfl), (hT _ qq_7_3), (hT _ qs_4_10)⟩ (pq_V hPc hK hN (ci := 10) (q0 := 0) rfl rfl) rfl rfl hl.1 rfl (lv_room (Nat.le_of_ble_eq_true rfl)) dX12_button_2 ⟨Nat.le_of_ble_eq_true rfl, Nat.le_of_ble_eq_true rfl⟩) (fun v9 hz_2 => ?_)
  obtain ⟨x_1, rfl, r_3⟩ := hz_2
  refine lv_if_eq (tgt := 20) hx hb dX12_button_5 (by decide) (fun c_4 => ?_) (fun c_4 => ?_)
  · have r_5 : Rg 0 0 x_1 := Rg.eq_l c_4 r_3.1 (Rg.c (c := 0) (k := 0) rfl) (by decide)
    refine lv_bipush (v := (-2)) hx hb dX12_button_20 (by decide) ?_
    exact W.iret (v := (-2)) hx hb hr (fun t9 ht9 hW9 => ⟨⟨_, rfl, _, rfl⟩, ht9.trans hHe⟩) (fun _ h9 => by rw [hlc] at h9; exact absurd h9 List.not_mem_nil) dX12_button_22
  · have r_6 : Rg 1 1 x_1 := Rg.ne c_4 r_3.1 (Rg.c (c := 0) (k := 0) rfl) (by decide)
    have r_7 : Rg 0 7 b := hb_r (r_3.2.1 c_4) (hsi).a0 (by decide)
    refine lv_iload_n hx hb dX12_button_8 rfl (lv_at hl 2 rfl) ?_
    refine lv_i2l (v := Int32.toInt64 a) hx hb dX12_button_9 rfl ?_
    refine lv_topl (fun x_8 e_9 => ?_)
    refine lv_lconst (v := 0) hx hb dX12_button_10 (by decide) ?_
    refine lv_ldc2 (v := 7) hx hb hown (hT _ qq_7_5) dX12_button_11 ?_
    have hPc := va_P.sub (ws' := []) hP [] rfl
    refine cl_P (W.runS (As := [.long x_8, .long 0, .long 7]) (rest := []) ⟨hx, hb, hml, hown, hts⟩ (c_M_in l D cs x_8 0 7) ⟨callB_of 3 hts (gd_C qq_6_97) rfl rfl rfl (hT _ qq_1_9) (hT _ qq_6_95) (by decide +kernel) (rm_R rfl rfl), (hT _ qq_6_96)⟩ (pq_S hPc hK hN) rfl rfl hl.1 rfl (lv_room (Nat.le_of_ble_eq_true rfl)) dX12_button_14 ⟨Nat.le_of_ble_eq_true rfl, Nat.le_of_ble_eq_true rfl⟩) (fun v9 hz_11 => ?_)
    obtain ⟨x_10, rfl, r_12⟩ := hz_11
    refine lv_if_ne (tgt := 23) hx hb dX12_button_17 (by decide) (fun c_13 => ?_) (fun c_13 => ?_)
    · have r_14 : Rg 1 1 x_10 := Rg.ne c_13 r_12.1 (Rg.c (c := 0) (k := 0) rfl) (by decide)
      have r_15 : Rg 0 7 a := in_rg e_9 (r_12.2 c_13) (by decide) (by decide)
      refine lv_iload_n hx hb dX12_button_23 rfl (lv_at hl 2 rfl) ?_
      rcases sw_0_6 a with c_17 | c_17 | c_17 | c_17 | c_17 | c_17 | c_17 | c_17
      · refine lv_tableOut (tgt := 137) hx hb dX12_button_24 c_17 (by decide) ?_
        refine lv_aload_n hx hb dX12_button_137 rfl (lv_at hl 0 rfl) ?_
        refine lv_iload_n hx hb dX12_button_138 rfl (lv_at hl 1 rfl) ?_
        have hPc := va_P.sub (ws' := [(m0, .inr (10, (.ref mtp :: .int sta :: .int sru :: .ref msg :: .ref mln :: .ref mcl :: .ref mcs :: .ref mrd :: .int snx :: .int swr :: .int snu :: .int ste :: .int sma :: .int sde :: .int sli :: .ref mop :: .int sod :: .ref mst :: .int sto :: .ref mwd :: .ref msd :: .int sx_ :: .ref mws :: .int sun :: .ref mfr :: .ref mqu :: .ref miw :: .int sfi :: .int swa :: .long sdx :: .ref mim :: .ref mix :: .ref mmd :: []))), (msd, .inl ((cs 0), 133, .inl gsd))]) hP [0, 1] rfl
        refine cl_P (W.runV (As := [.int b]) (rest := []) ⟨hx, hb, hml, hown, hts⟩ (c_M_canBeRight l D cs m0 mtp sta sru msg mln mcl mcs mrd snx swr snu ste sma sde sli mop sod mst sto mwd msd sx_ mws sun mfr mqu miw sfi swa sdx mim mix mmd gsd b hsi r_7) ⟨callB_of 1 hts (gd_C qq_7_21) rfl rfl rfl (hT _ qq_1_9) (hT _ qq_7_18) (by decide +kernel) (rm_R rfl rfl), (hT _ qq_7_20), (hT _ qs_4_14)⟩ (pq_V hPc hK hN (ci := 10) (q0 := 0) rfl rfl) rfl rfl hl.1 rfl (lv_room (Nat.le_of_ble_eq_true rfl)) dX12_button_139 ⟨Nat.le_of_ble_eq_true rfl, Nat.le_of_ble_eq_true rfl⟩) (fun v9 hz_26 => ?_)
        obtain ⟨x_25, rfl, r_27⟩ := hz_26
        refine lv_if_eq (tgt := 149) hx hb dX12_button_142 (by decide) (fun c_28 => ?_) (fun c_28 => ?_)
        · have r_29 : Rg 0 0 x_25 := Rg.eq_l c_28 r_27 (Rg.c (c := 0) (k := 0) rfl) (by decide)
          refine lv_iconst (v := 0) hx hb dX12_button_149 (by decide) ?_
          exact W.iret (v := 0) hx hb hr (fun t9 ht9 hW9 => ⟨⟨_, rfl, _, rfl⟩, ht9.trans hHe⟩) (fun _ h9 => by rw [hlc] at h9; exact absurd h9 List.not_mem_nil) dX12_button_150
        · have r_30 : Rg 1 1 x_25 := Rg.ne c_28 r_27 (Rg.c (c := 0) (k := 0) rfl) (by decide)
          refine lv_iconst (v := 1) hx hb dX12_button_145 (by decide) ?_
          refine lv_goto (tgt := 150) hx hb dX12_button_146 (by decide) ?_
          exact W.iret (v := 1) hx hb hr (fun t9 ht9 hW9 => ⟨⟨_, rfl, _, rfl⟩, ht9.trans hHe⟩) (fun _ h9 => by rw [hlc] at h9; exact absurd h9 List.not_mem_nil) dX12_button_150
      · refine tc_i 0 c_17 ?_
        have r_18 : Rg 0 0 a := Rg.of c_17 (Rg.c rfl)
        refine lv_tableIn (tgt := 68) hx hb dX12_button_24 (by decide) (by decide) rfl (by decide) ?_
        refine lv_aload_n hx hb dX12_button_68 rfl (lv_at hl 0 rfl) ?_
        refine va_get (D := D) (ci := 10) (v := .ref msd) (C := "WrongHoleModel") (T := TX12) (N := 33) hx hb hts (iq_RX12 _) hown hK hP 0 rfl rfl 20 (by decide) (hT _ qq_5_172) (fun _ h9 => h9) rfl dX12_button_69 ?_
        refine lv_bipush (v := 10) hx hb dX12_button_72 (by decide) ?_
        refine lv_iload_n hx hb dX12_button_74 rfl (lv_at hl 1 rfl) ?_
        refine lv_iadd hx hb dX12_button_75 ?_
        refine lv_topi (fun x_31 e_32 => ?_)
        have r_33 : Rg 10 17 x_31 := Rg.add e_32 (Rg.c (c := 10) (k := 10) rfl) r_7 (by decide)
        have hi_34 : vp_in x_31 133 := Rg.in r_33 (by decide)
        refine va_iald hx hb hK hP 1 0 rfl rfl hi_34 dX12_button_76 ?_
        refine lv_topi (fun x_35 e_36 => ?_)
        have r_37 : Rg (-1) 7 x_35 := Rg.of e_36 (hsi.li r_33 (by decide))
        exact W.iret (v := x_35) hx hb hr (fun t9 ht9 hW9 => ⟨⟨_, rfl, _, rfl⟩, ht9.trans hHe⟩) (fun _ h9 => by rw [hlc] at h9; exact absurd h9 List.not_mem_nil) dX12_button_77
      · refine tc_i 1 c_17 ?_
        have r_19 : Rg 1 1 a := Rg.of c_17 (Rg.c rfl)
        refine lv_tableIn (tgt := 78) hx hb dX12_button_24 (by decide) (by decide) rfl (by decide) ?_
        refine lv_aload_n hx hb dX12_button_78 rfl (lv_at hl 0 rfl) ?_
        refine lv_iload_n hx hb dX12_button_79 rfl (lv_at hl 1 rfl) ?_
        refine lv_iconst (v := 0) hx hb dX12_button_80 (by decide) ?_
        have hPc := va_P.sub (ws' := [(m0, .inr (10, (.ref mtp :: .int sta :: .int sru :: .ref msg :: .ref mln :: .ref mcl :: .ref mcs :: .ref mrd :: .int snx :: .int swr :: .int snu :: .int ste :: .int sma :: .int sde :: .int sli :: .ref mop :: .int sod :: .ref mst :: .int sto :: .ref mwd :: .ref msd :: .int sx_ :: .ref mws :: .int sun :: .ref mfr :: .ref mqu :: .ref miw :: .int sfi :: .int swa :: .long sdx :: .ref mim :: .ref mix :: .ref mmd :: []))), (msd, .inl ((cs 0), 133, .inl gsd))]) hP [0, 1] rfl
        refine cl_V (W.runV (As := [.int b, .int 0]) (rest := []) ⟨hx, hb, hml, hown, hts⟩ (c_M_buttonOf_0 l D cs m0 mtp sta sru msg mln mcl mcs mrd snx swr snu ste sma sde sli mop sod mst sto mwd msd sx_ mws sun mfr mqu miw sfi swa sdx mim mix mmd gsd b hsi r_7) ⟨callB_of 2 hts (gd_C qq_7_9) rfl rfl rfl (hT _ qq_1_9) (hT _ qq_7_6) (by decide +kernel) (rm_R rfl rfl), (hT _ qq_7_8), (hT _ qs_4_11)⟩ (pq_V hPc hK hN (ci := 10) (q0 := 0) rfl rfl) rfl rfl hl.1 rfl (lv_room (Nat.le_of_ble_eq_true rfl)) dX12_button_81 ⟨Nat.le_of_ble_eq_true rfl, Nat.le_of_ble_eq_true rfl⟩) ?_
        refine lv_topi (fun x_38 e_39 => ?_)
        exact W.iret (v := x_38) hx hb hr (fun t9 ht9 hW9 => ⟨⟨_, rfl, _, rfl⟩, ht9.trans hHe⟩) (fun _ h9 => by rw [hlc] at h9; exact absurd h9 List.not_mem_nil) dX12_button_84
      · refine tc_i 2 c_17 ?_
        have r_20 : Rg 2 2 a := Rg.of c_17 (Rg.c rfl)
        refine lv_tableIn (tgt := 85) hx hb dX12_button_24 (by decide) (by decide) rfl (by decide) ?_
        refine lv_aload_n hx hb dX12_button_85 rfl (lv_at hl 0 rfl) ?_
        refine lv_iload_n hx hb dX12_button_86 rfl (lv_at hl 1 rfl) ?_
        refine lv_iconst (v := 1) hx hb dX12_button_87 (by decide) ?_
        have hPc := va_P.sub (ws' := [(m0, .inr (10, (.ref mtp :: .int sta :: .int sru :: .ref msg :: .ref mln :: .ref mcl :: .ref mcs :: .ref mrd :: .int snx :: .int swr :: .int snu :: .int ste :: .int sma :: .int sde :: .int sli :: .ref mop :: .int sod :: .ref mst :: .int sto :: .ref mwd :: .ref msd :: .int sx_ :: .ref mws :: .int sun :: .ref mfr :: .ref mqu :: .ref miw :: .int sfi :: .int swa :: .long sdx :: .ref mim :: .ref mix :: .ref mmd :: []))), (msd, .inl ((cs 0), 133, .inl gsd))]) hP [0, 1] rfl
        refine cl_V (W.runV (As := [.int b, .int 1]) (rest := []) ⟨hx, hb, hml, hown, hts⟩ (c_M_buttonOf_1 l D cs m0 mtp sta sru msg mln mcl mcs mrd snx swr snu ste sma sde sli mop sod mst sto mwd msd sx_ mws sun mfr mqu miw sfi swa sdx mim mix mmd gsd b hsi r_7) ⟨callB_of 2 hts (gd_C qq_7_9) rfl rfl rfl (hT _ qq_1_9) (hT _ qq_7_6) (by decide +kernel) (rm_R rfl rfl), (hT _ qq_7_8), (hT _ qs_4_11)⟩ (pq_V hPc hK hN (ci := 10) (q0 := 0) rfl rfl) rfl rfl hl.1 rfl (lv_room (Nat.le_of_ble_eq_true rfl)) dX12_button_88 ⟨Nat.le_of_ble_eq_true rfl, Nat.le_of_ble_eq_true rfl⟩) ?_
        refine lv_topi (fun x_40 e_41 => ?_)
        exact W.iret (v := x_40) hx hb hr (fun t9 ht9 hW9 => ⟨⟨_, rfl, _, rfl⟩, ht9.trans hHe⟩) (fun _ h9 => by rw [hlc] at h9; exact absurd h9 List.not_mem_nil) dX12_button_91
      · refine tc_i 3 c_17 ?_
        have r_21 : Rg 3 3 a := Rg.of c_17 (Rg.c rfl)
        refine lv_tableIn (tgt := 92) hx hb dX12_button_24 (by decide) (by decide) rfl (by decide) ?_
        refine lv_aload_n hx hb dX12_button_92 rfl (lv_at hl 0 rfl) ?_
        refine lv_iload_n hx hb dX12_button_93 rfl (lv_at hl 1 rfl) ?_
        refine lv_iconst (v := 2) hx hb dX12_button_94 (by decide) ?_
        have hPc := va_P.sub (ws' := [(m0, .inr (10, (.ref mtp :: .int sta :: .int sru :: .ref msg :: .ref mln :: .ref mcl :: .ref mcs :: .ref mrd :: .int snx :: .int swr :: .int snu :: .int ste :: .int sma :: .int sde :: .int sli :: .ref mop :: .int sod :: .ref mst :: .int sto :: .ref mwd :: .ref msd :: .int sx_ :: .ref mws :: .int sun :: .ref mfr :: .ref mqu :: .ref miw :: .int sfi :: .int swa :: .long sdx :: .ref mim :: .ref mix :: .ref mmd :: []))), (msd, .inl ((cs 0), 133, .inl gsd))]) hP [0, 1] rfl
        refine cl_V (W.runV (As := [.int b, .int 2]) (rest := []) ⟨hx, hb, hml, hown, hts⟩ (c_M_buttonOf_2 l D cs m0 mtp sta sru msg mln mcl mcs mrd snx swr snu ste sma sde sli mop sod mst sto mwd msd sx_ mws sun mfr mqu miw sfi swa sdx mim mix mmd gsd b hsi r_7) ⟨callB_of 2 hts (gd_C qq_7_9) rfl rfl rfl (hT _ qq_1_9) (hT _ qq_7_6) (by decide +kernel) (rm_R rfl rfl), (hT _ qq_7_8), (hT _ qs_4_11)⟩ (pq_V hPc hK hN (ci := 10) (q0 := 0) rfl rfl) rfl rfl hl.1 rfl (lv_room (Nat.le_of_ble_eq_true rfl)) dX12_button_95 ⟨Nat.le_of_ble_eq_true rfl, Nat.le_of_ble_eq_true rfl⟩) ?_
        refine lv_topi (fun x_42 e_43 => ?_)
        refine lv_aload_n hx hb dX12_button_98 rfl (lv_at hl 0 rfl) ?_
        refine lv_iload_n hx hb dX12_button_99 rfl (lv_at hl 1 rfl) ?_
        have hPc := va_P.sub (ws' := [(m0, .inr (10, (.ref mtp :: .int sta :: .int sru :: .ref msg :: .ref mln :: .ref mcl :: .ref mcs :: .ref mrd :: .int snx :: .int swr :: .int snu :: .int ste :: .int sma :: .int sde :: .int sli :: .ref mop :: .int sod :: .ref mst :: .int sto :: .ref mwd :: .ref msd :: .int sx_ :: .ref mws :: .int sun :: .ref mfr :: .ref mqu :: .ref miw :: .int sfi :: .int swa :: .long sdx :: .ref mim :: .ref mix :: .ref mmd :: []))), (msd, .inl ((cs 0), 133, .inl gsd))]) hP [0, 1] rfl
        refine cl_V (W.runV (As := [.int b]) (rest := [.int x_42]) ⟨hx, hb, hml, hown, hts⟩ (c_M_tieE l D cs m0 mtp sta sru msg mln mcl mcs mrd snx swr snu ste sma sde sli mop sod mst sto mwd msd sx_ mws sun mfr mqu miw sfi swa sdx mim mix mmd gsd b hsi r_7) ⟨callB_of 1 hts (gd_C qq_7_13) rfl rfl rfl (hT _ qq_1_9) (hT _ qq_7_10) (by decide +kernel) (rm_R rfl rfl), (hT _ qq_7_12), (hT _ qs_4_12)⟩ (pq_V hPc hK hN (ci := 10) (q0 := 0) rfl rfl) rfl rfl hl.1 rfl (lv_room (Nat.le_of_ble_eq_true rfl)) dX12_button_100 ⟨Nat.le_of_ble_eq_true rfl, Nat.le_of_ble_eq_true rfl⟩) ?_
        refine lv_topi (fun x_44 e_45 => ?_)
        have r_46 : Rg 0 20 x_44 := Rg.of e_45 (tie_rg (hsi) _)
        refine lv_iadd hx hb dX12_button_103 ?_
        refine lv_topi (fun x_47 e_48 => ?_)
        exact W.iret (v := x_47) hx hb hr (fun t9 ht9 hW9 => ⟨⟨_, rfl, _, rfl⟩, ht9.trans hHe⟩) (fun _ h9 => by rw [hlc] at h9; exact absurd h9 List.not_mem_nil) dX12_button_104
      · refine tc_i 4 c_17 ?_
        have r_22 : Rg 4 4 a := Rg.of c_17 (Rg.c rfl)
        refine lv_tableIn (tgt := 105) hx hb dX12_button_24 (by decide) (by decide) rfl (by decide) ?_
        refine lv_aload_n hx hb dX12_button_105 rfl (lv_at hl 0 rfl) ?_
        refine lv_iload_n hx hb dX12_button_106 rfl (lv_at hl 1 rfl) ?_
        refine lv_iconst (v := 3) hx hb dX12_button_107 (by decide) ?_
        have hPc := va_P.sub (ws' := [(m0, .inr (10, (.ref mtp :: .int sta :: .int sru :: .ref msg :: .ref mln :: .ref mcl :: .ref mcs :: .ref mrd :: .int snx :: .int swr :: .int snu :: .int ste :: .int sma :: .int sde :: .int sli :: .ref mop :: .int sod :: .ref mst :: .int sto :: .ref mwd :: .ref msd :: .int sx_ :: .ref mws :: .int sun :: .ref mfr :: .ref mqu :: .ref miw :: .int sfi :: .int swa :: .long sdx :: .ref mim :: .ref mix :: .ref mmd :: []))), (msd, .inl ((cs 0), 133, .inl gsd))]) hP [0, 1] rfl
        refine cl_V (W.runV (As := [.int b, .int 3]) (rest := []) ⟨hx, hb, hml, hown, hts⟩ (c_M_buttonOf_3 l D cs m0 mtp sta sru msg mln mcl mcs mrd snx swr snu ste sma sde sli mop sod mst sto mwd msd sx_ mws sun mfr mqu miw sfi swa sdx mim mix mmd gsd b hsi r_7) ⟨callB_of 2 hts (gd_C qq_7_9) rfl rfl rfl (hT _ qq_1_9) (hT _ qq_7_6) (by decide +kernel) (rm_R rfl rfl), (hT _ qq_7_8), (hT _ qs_4_11)⟩ (pq_V hPc hK hN (ci := 10) (q0 := 0) rfl rfl) rfl rfl hl.1 rfl (lv_room (Nat.le_of_ble_eq_true rfl)) dX12_button_108 ⟨Nat.le_of_ble_eq_true rfl, Nat.le_of_ble_eq_true rfl⟩) ?_
        refine lv_topi (fun x_49 e_50 => ?_)
        refine lv_aload_n hx hb dX12_button_111 rfl (lv_at hl 0 rfl) ?_
        refine lv_iload_n hx hb dX12_button_112 rfl (lv_at hl 1 rfl) ?_
        have hPc := va_P.sub (ws' := [(m0, .inr (10, (.ref mtp :: .int sta :: .int sru :: .ref msg :: .ref mln :: .ref mcl :: .ref mcs :: .ref mrd :: .int snx :: .int swr :: .int snu :: .int ste :: .int sma :: .int sde :: .int sli :: .ref mop :: .int sod :: .ref mst :: .int sto :: .ref mwd :: .ref msd :: .int sx_ :: .ref mws :: .int sun :: .ref mfr :: .ref mqu :: .ref miw :: .int sfi :: .int swa :: .long sdx :: .ref mim :: .ref mix :: .ref mmd :: []))), (msd, .inl ((cs 0), 133, .inl gsd))]) hP [0, 1] rfl
        refine cl_V (W.runV (As := [.int b]) (rest := [.int x_49]) ⟨hx, hb, hml, hown, hts⟩ (c_M_tieE l D cs m0 mtp sta sru msg mln mcl mcs mrd snx swr snu ste sma sde sli mop sod mst sto mwd msd sx_ mws sun mfr mqu miw sfi swa sdx mim mix mmd gsd b hsi r_7) ⟨callB_of 1 hts (gd_C qq_7_13) rfl rfl rfl (hT _ qq_1_9) (hT _ qq_7_10) (by decide +kernel) (rm_R rfl rfl), (hT _ qq_7_12), (hT _ qs_4_12)⟩ (pq_V hPc hK hN (ci := 10) (q0 := 0) rfl rfl) rfl rfl hl.1 rfl (lv_room (Nat.le_of_ble_eq_true rfl)) dX12_button_113 ⟨Nat.le_of_ble_eq_true rfl, Nat.le_of_ble_eq_true rfl⟩) ?_
        refine lv_topi (fun x_51 e_52 => ?_)
        have r_53 : Rg 0 20 x_51 := Rg.of e_52 (tie_rg (hsi) _)
        refine lv_iadd hx hb dX12_button_116 ?_
        refine lv_topi (fun x_54 e_55 => ?_)
        exact W.iret (v := x_54) hx hb hr (fun t9 ht9 hW9 => ⟨⟨_, rfl, _, rfl⟩, ht9.trans hHe⟩) (fun _ h9 => by rw [hlc] at h9; exact absurd h9 List.not_mem_nil) dX12_button_117
      · refine tc_i 5 c_17 ?_
        have r_23 : Rg 5 5 a := Rg.of c_17 (Rg.c rfl)
        refine lv_tableIn (tgt := 118) hx hb dX12_button_24 (by decide) (by decide) rfl (by decide) ?_
        refine lv_aload_n hx hb dX12_button_118 rfl (lv_at hl 0 rfl) ?_
        refine lv_iload_n hx hb dX12_button_119 rfl (lv_at hl 1 rfl) ?_
        refine lv_iconst (v := 4) hx hb dX12_button_120 (by decide) ?_
        have hPc := va_P.sub (ws' := [(m0, .inr (10, (.ref mtp :: .int sta :: .int sru :: .ref msg :: .ref mln :: .ref mcl :: .ref mcs :: .ref mrd :: .int snx :: .int swr :: .int snu :: .int ste :: .int sma :: .int sde :: .int sli :: .ref mop :: .int sod :: .ref mst :: .int sto :: .ref mwd :: .ref msd :: .int sx_ :: .ref mws :: .int sun :: .ref mfr :: .ref mqu :: .ref miw :: .int sfi :: .int swa :: .long sdx :: .ref mim :: .ref mix :: .ref mmd :: []))), (msd, .inl ((cs 0), 133, .inl gsd))]) hP [0, 1] rfl
        refine cl_V (W.runV (As := [.int b, .int 4]) (rest := []) ⟨hx, hb, hml, hown, hts⟩ (c_M_buttonOf_4 l D cs m0 mtp sta sru msg mln mcl mcs mrd snx swr snu ste sma sde sli mop sod mst sto mwd msd sx_ mws sun mfr mqu miw sfi swa sdx mim mix mmd gsd b hsi r_7) ⟨callB_of 2 hts (gd_C qq_7_9) rfl rfl rfl (hT _ qq_1_9) (hT _ qq_7_6) (by decide +kernel) (rm_R rfl rfl), (hT _ qq_7_8), (hT _ qs_4_11)⟩ (pq_V hPc hK hN (ci := 10) (q0 := 0) rfl rfl) rfl rfl hl.1 rfl (lv_room (Nat.le_of_ble_eq_true rfl)) dX12_button_121 ⟨Nat.le_of_ble_eq_true rfl, Nat.le_of_ble_eq_true rfl⟩) ?_
        refine lv_topi (fun x_56 e_57 => ?_)
        exact W.iret (v := x_56) hx hb hr (fun t9 ht9 hW9 => ⟨⟨_, rfl, _, rfl⟩, ht9.trans hHe⟩) (fun _ h9 => by rw [hlc] at h9; exact absurd h9 List.not_mem_nil) dX12_button_124
      · refine tc_i 6 c_17 ?_
        have r_24 : Rg 6 6 a := Rg.of c_17 (Rg.c rfl)
        refine lv_tableIn (tgt := 125) hx hb dX12_button_24 (by decide) (by decide) rfl (by decide) ?_
        refine lv_aload_n hx hb dX12_button_125 rfl (lv_at hl 0 rfl) ?_
        refine lv_iload_n hx hb dX12_button_126 rfl (lv_at hl 1 rfl) ?_
        refine lv_aload_n hx hb dX12_button_127 rfl (lv_at hl 0 rfl) ?_
        refine va_get (D := D) (ci := 10) (v := .ref msd) (C := "WrongHoleModel") (T := TX12) (N := 33) hx hb hts (iq_RX12 _) hown hK hP 0 rfl rfl 20 (by decide) (hT _ qq_5_172) (fun _ h9 => h9) rfl dX12_button_128 ?_
        refine lv_iconst (v := 3) hx hb dX12_button_131 (by decide) ?_
        have hi_58 : vp_in 3 133 := vi_c rfl
        refine va_iald hx hb hK hP 1 0 rfl rfl hi_58 dX12_button_132 ?_
        refine lv_topi (fun x_59 e_60 => ?_)
        have r_61 : Rg 0 9999 x_59 := Rg.of e_60 (hsi.a3)
        have hPc := va_P.sub (ws' := [(m0, .inr (10, (.ref mtp :: .int sta :: .int sru :: .ref msg :: .ref mln :: .ref mcl :: .ref mcs :: .ref mrd :: .int snx :: .int swr :: .int snu :: .int ste :: .int sma :: .int sde :: .int sli :: .ref mop :: .int sod :: .ref mst :: .int sto :: .ref mwd :: .ref msd :: .int sx_ :: .ref mws :: .int sun :: .ref mfr :: .ref mqu :: .ref miw :: .int sfi :: .int swa :: .long sdx :: .ref mim :: .ref mix :: .ref mmd :: []))), (msd, .inl ((cs 0), 133, .inl gsd))]) hP [0, 1] rfl
        refine cl_P (W.runV (As := [.int b, .int x_59]) (rest := []) ⟨hx, hb, hml, hown, hts⟩ (c_M_seenOf l D cs m0 mtp sta sru msg mln mcl mcs mrd snx swr snu ste sma sde sli mop sod mst sto mwd msd sx_ mws sun mfr mqu miw sfi swa sdx mim mix mmd gsd b x_59 hsi) ⟨callB_of 2 hts (gd_C qq_7_17) rfl rfl rfl (hT _ qq_1_9) (hT _ qq_7_14) (by decide +kernel) (rm_R rfl rfl), (hT _ qq_7_16), (hT _ qs_4_13)⟩ (pq_V hPc hK hN (ci := 10) (q0 := 0) rfl rfl) rfl rfl hl.1 rfl (lv_room (Nat.le_of_ble_eq_true rfl)) dX12_button_133 ⟨Nat.le_of_ble_eq_true rfl, Nat.le_of_ble_eq_true rfl⟩) (fun v9 hz_63 => ?_)
        obtain ⟨x_62, rfl⟩ := hz_63
        exact W.iret (v := x_62) hx hb hr (fun t9 ht9 hW9 => ⟨⟨_, rfl, _, rfl⟩, ht9.trans hHe⟩) (fun _ h9 => by rw [hlc] at h9; exact absurd h9 List.not_mem_nil) dX12_button_136
    · have r_16 : Rg 0 0 x_10 := Rg.eq_l c_13 r_12.1 (Rg.c (c := 0) (k := 0) rfl) (by decide)
      refine lv_bipush (v := (-2)) hx hb dX12_button_20 (by decide) ?_
      exact W.iret (v := (-2)) hx hb hr (fun t9 ht9 hW9 => ⟨⟨_, rfl, _, rfl⟩, ht9.trans hHe⟩) (fun _ h9 => by rw [hlc] at h9; exact absurd h9 List.not_mem_nil) dX12_button_22
theorem dX12_hole_0 : decode cX12_hole 0 = .ok (.aload_n 0, 1) := by decide +kernel
theorem dX12_hole_1 : decode cX12_hole 1 = .ok (.iload_n 1, 1) := by decide +kernel
theorem dX12_hole_2 : decode cX12_hole 2 = .ok (.invokevirtual 371, 3) := by decide +kernel
theorem dX12_hole_5 : decode cX12_hole 5 = .ok (.ifCond .eq 15, 3) := by decide +kernel
theorem dX12_hole_20 : decode cX12_hole 20 = .ok (.bipush (-2), 2) := by decide +kernel
theorem dX12_hole_22 : decode cX12_hole 22 = .ok (.ireturn, 1) := by decide +kernel
theorem dX12_hole_8 : decode cX12_hole 8 = .ok (.iload_n 2, 1) := by decide +kernel
theorem dX12_hole_9 : decode cX12_hole 9 = .ok (.i2l, 1) := by decide +kernel
theorem dX12_hole_10 : decode cX12_hole 10 = .ok (.lconst 0, 1) := by decide +kernel
theorem dX12_hole_11 : decode cX12_hole 11 = .ok (.ldc2_w 395, 3) := by decide +kernel
theorem qq_7_38 : Cond.constantLong "WrongHoleModel" 395 2 ∈ TB := mk_tb (ti_7 (List.mem_of_getElem? (i := 38) rfl)) rfl
theorem dX12_hole_14 : decode cX12_hole 14 = .ok (.invokestatic 104, 3) := by decide +kernel
theorem dX12_hole_17 : decode cX12_hole 17 = .ok (.ifCond .ne 6, 3) := by decide +kernel
theorem dX12_hole_23 : decode cX12_hole 23 = .ok (.iload_n 2, 1) := by decide +kernel
theorem dX12_hole_24 : decode cX12_hole 24 = .ok (.ifCond .le 12, 3) := by decide +kernel
theorem dX12_hole_36 : decode cX12_hole 36 = .ok (.iconst 0, 1) := by decide +kernel
theorem dX12_hole_37 : decode cX12_hole 37 = .ok (.istore_n 3, 1) := by decide +kernel
theorem dX12_hole_38 : decode cX12_hole 38 = .ok (.iload_n 3, 1) := by decide +kernel
theorem dX12_hole_39 : decode cX12_hole 39 = .ok (.aload_n 0, 1) := by decide +kernel
theorem dX12_hole_40 : decode cX12_hole 40 = .ok (.getfield 39, 3) := by decide +kernel
theorem dX12_hole_43 : decode cX12_hole 43 = .ok (.iconst 0, 1) := by decide +kernel
theorem dX12_hole_44 : decode cX12_hole 44 = .ok (.iaload, 1) := by decide +kernel
theorem dX12_hole_45 : decode cX12_hole 45 = .ok (.if_icmp .ge 24, 3) := by decide +kernel
theorem dX12_hole_69 : decode cX12_hole 69 = .ok (.iconst (-1), 1) := by decide +kernel
theorem dX12_hole_70 : decode cX12_hole 70 = .ok (.ireturn, 1) := by decide +kernel
theorem dX12_hole_48 : decode cX12_hole 48 = .ok (.aload_n 0, 1) := by decide +kernel
theorem dX12_hole_49 : decode cX12_hole 49 = .ok (.getfield 39, 3) := by decide +kernel
theorem dX12_hole_52 : decode cX12_hole 52 = .ok (.bipush 10, 2) := by decide +kernel
theorem dX12_hole_54 : decode cX12_hole 54 = .ok (.iload_n 3, 1) := by decide +kernel
theorem dX12_hole_55 : decode cX12_hole 55 = .ok (.iadd, 1) := by decide +kernel
theorem dX12_hole_56 : decode cX12_hole 56 = .ok (.iaload, 1) := by decide +kernel
theorem dX12_hole_57 : decode cX12_hole 57 = .ok (.iload_n 1, 1) := by decide +kernel
theorem dX12_hole_58 : decode cX12_hole 58 = .ok (.if_icmp .ne 5, 3) := by decide +kernel
theorem dX12_hole_63 : decode cX12_hole 63 = .ok (.iinc 3 1, 3) := by decide +kernel
theorem dX12_hole_66 : decode cX12_hole 66 = .ok (.goto (-28), 3) := by decide +kernel
theorem dX12_hole_61 : decode cX12_hole 61 = .ok (.iload_n 3, 1) := by decide +kernel
theorem dX12_hole_62 : decode cX12_hole 62 = .ok (.ireturn, 1) := by decide +kernel
theorem dX12_hole_27 : decode cX12_hole 27 = .ok (.aload_n 0, 1) := by decide +kernel
theorem dX12_hole_28 : decode cX12_hole 28 = .ok (.iload_n 1, 1) := by decide +kernel
theorem dX12_hole_29 : decode cX12_hole 29 = .ok (.iload_n 2, 1) := by decide +kernel
theorem dX12_hole_30 : decode cX12_hole 30 = .ok (.iconst 1, 1) := by decide +kernel
theorem dX12_hole_31 : decode cX12_hole 31 = .ok (.isub, 1) := by decide +kernel
theorem dX12_hole_32 : decode cX12_hole 32 = .ok (.invokevirtual 323, 3) := by decide +kernel
theorem dX12_hole_35 : decode cX12_hole 35 = .ok (.ireturn, 1) := by decide +kernel
set_option maxHeartbeats 4000000 in
set_option maxRecDepth 100000 in
theorem c_M_hole (l : Launch) (D : va_G) (cs : Nat → ClassId) (m0 : Nat) (mtp : Nat) (sta : Int32) (sru : Int32) (msg : Nat) (mln : Nat) (mcl : Nat) (mcs : Nat) (mrd : Nat) (snx : Int32) (swr : Int32) (snu : Int32) (ste : Int32) (sma : Int32) (sde : Int32) (sli : Int32) (mop : Nat) (sod : Int32) (mst : Nat) (sto : Int32) (mwd : Nat) (msd : Nat) (sx_ : Int32) (mws : Nat) (sun : Int32) (mfr : Nat) (mqu : Nat) (miw : Nat) (sfi : Int32) (swa : Int32) (sdx : Int64) (mim : Nat) (mix : Nat) (mmd : Nat) (gsd : Nat → Int32) (b : Int32) (a : Int32) (hsi : SI gsd) : Met l yX12_hole (Cond.code yX12_hole cX12_hole 4 (some .int) :: TB) (RM 1 0 0) (va_Pc [.ref m0, .int b, .int a] (PRR D cs [(m0, .inr (10, (.ref mtp :: .int sta :: .int sru :: .ref msg :: .ref mln :: .ref mcl :: .ref mcs :: .ref mrd :: .int snx :: .int swr :: .int snu :: .int ste :: .int sma :: .int sde :: .int sli :: .ref mop :: .int sod :: .ref mst :: .int sto :: .ref mwd :: .ref msd :: .int sx_ :: .ref mws :: .int sun :: .ref mfr :: .ref mqu :: .ref miw :: .int sfi :: .int swa :: .long sdx :: .ref mim :: .ref mix :: .ref mmd :: []))), (msd, .inl ((cs 0), 133, .inl gsd))])) (QP (fun v => ∃ x : Int32, v = .int x)) 0 0 (fun _ => False) := by
  refine MER (y := yX12_hole) (cc := cX12_hole) (maxL := 4) (ret := (some .int)) (d := 1) (D := D) (cs := cs) (ws := [(m0, .inr (10, (.ref mtp :: .int sta :: .int sru :: .ref msg :: .ref mln :: .ref mcl :: .ref mcs :: .ref mrd :: .int snx :: .int swr :: .int snu :: .int ste :: .int sma :: .int sde :: .int sli :: .ref mop :: .int sod :: .ref mst :: .int sto :: .ref mwd :: .ref msd :: .int sx_ :: .ref mws :: .int sun :: .ref mfr :: .ref mqu :: .ref miw :: .int sfi :: .int swa :: .long sdx :: .ref mim :: .ref mix :: .ref mmd :: []))), (msd, .inl ((cs 0), 133, .inl gsd))]) (av := [.ref m0, .int b, .int a]) (Qc := QP (fun v => ∃ x : Int32, v = .int x)) (by decide) (Nat.le_of_ble_eq_true rfl) ?_
  intro p e s m below meth c ls H hHe hx hb hr hml hown hts hlocks hP hK hN hl
  obtain ⟨locs, hlc⟩ : ∃ z : List Loc, z = [] := ⟨_, rfl⟩
  rw [← hlc]
  have hown : s.vm.findClass "WrongHoleModel" = some m.cls := hown
  have hT : ∀ w ∈ TB, w.before ([.ref m0, .int b, .int a] : List Value).toArray s = true := fun w h => hts w (List.mem_cons_of_mem _ h)
  have hl : lv_has ls 4 [(0, .ref m0), (1, .int b), (2, .int a)] := hl
  have hP : va_P D vwCl [(m0, .inr (10, (.ref mtp :: .int sta :: .int sru :: .ref msg :: .ref mln :: .ref mcl :: .ref mcs :: .ref mrd :: .int snx :: .int swr :: .int snu :: .int ste :: .int sma :: .int sde :: .int sli :: .ref mop :: .int sod :: .ref mst :: .int sto :: .ref mwd :: .ref msd :: .int sx_ :: .ref mws :: .int sun :: .ref mfr :: .ref mqu :: .ref miw :: .int sfi :: .int swa :: .long sdx :: .ref mim :: .ref mix :: .ref mmd :: []))), (msd, .inl ((cs 0), 133, .inl gsd))] H := hP
  refine lv_aload_n hx hb dX12_hole_0 rfl (lv_at hl 0 rfl) ?_
  refine lv_iload_n hx hb dX12_hole_1 rfl (lv_at hl 1 rfl) ?_
  have hPc := va_P.sub (ws' := [(m0, .inr (10, (.ref mtp :: .int sta :: .int sru :: .ref msg :: .ref mln :: .ref mcl :: .ref mcs :: .ref mrd :: .int snx :: .int swr :: .int snu :: .int ste :: .int sma :: .int sde :: .int sli :: .ref mop :: .int sod :: .ref mst :: .int sto :: .ref mwd :: .ref msd :: .int sx_ :: .ref mws :: .int sun :: .ref mfr :: .ref mqu :: .ref miw :: .int sfi :: .int swa :: .long sdx :: .ref mim :: .ref mix :: .ref mmd :: []))), (msd, .inl ((cs 0), 133, .inl gsd))]) hP [0, 1] rfl
  refine cl_P (W.runV (As := [.int b]) (rest := []) ⟨hx, hb, hml, hown, hts⟩ (c_M_isHole l D cs m0 mtp sta sru msg mln mcl mcs mrd snx swr snu ste sma sde sli mop sod mst sto mwd msd sx_ mws sun mfr mqu miw sfi swa sdx mim mix mmd gsd b hsi) ⟨callB_of 1 hts (gd_C qq_7_37) rfl rfl rfl (hT _ qq_1_9) (hT _ qq_7_34) (by decide +kernel) (rm_R rfl rfl), (hT _ qq_7_36), (hT _ qs_5_1)⟩ (pq_V hPc hK hN (ci := 10) (q0 := 0) rfl rfl) rfl rfl hl.1 rfl (lv_room (Nat.le_of_ble_eq_true rfl)) dX12_hole_2 ⟨Nat.le_of_ble_eq_true rfl, Nat.le_of_ble_eq_true rfl⟩) (fun v9 hz_2 => ?_)
  obtain ⟨x_1, rfl, r_3⟩ := hz_2
  refine lv_if_eq (tgt := 20) hx hb dX12_hole_5 (by decide) (fun c_4 => ?_) (fun c_4 => ?_)
  · have r_5 : Rg 0 0 x_1 := Rg.eq_l c_4 r_3.1 (Rg.c (c := 0) (k := 0) rfl) (by decide)
    refine lv_bipush (v := (-2)) hx hb dX12_hole_20 (by decide) ?_
    exact W.iret (v := (-2)) hx hb hr (fun t9 ht9 hW9 => ⟨⟨_, rfl, _, rfl⟩, ht9.trans hHe⟩) (fun _ h9 => by rw [hlc] at h9; exact absurd h9 List.not_mem_nil) dX12_hole_22
  · have r_6 : Rg 1 1 x_1 := Rg.ne c_4 r_3.1 (Rg.c (c := 0) (k := 0) rfl) (by decide)
    have r_7 : Rg 0 7 b := hb_r (r_3.2.1 c_4) (hsi).a1 (by decide)
    refine lv_iload_n hx hb dX12_hole_8 rfl (lv_at hl 2 rfl) ?_
    refine lv_i2l (v := Int32.toInt64 a) hx hb dX12_hole_9 rfl ?_
    refine lv_topl (fun x_8 e_9 => ?_)
    refine lv_lconst (v := 0) hx hb dX12_hole_10 (by decide) ?_
    refine lv_ldc2 (v := 2) hx hb hown (hT _ qq_7_38) dX12_hole_11 ?_
    have hPc := va_P.sub (ws' := []) hP [] rfl
    refine cl_P (W.runS (As := [.long x_8, .long 0, .long 2]) (rest := []) ⟨hx, hb, hml, hown, hts⟩ (c_M_in l D cs x_8 0 2) ⟨callB_of 3 hts (gd_C qq_6_97) rfl rfl rfl (hT _ qq_1_9) (hT _ qq_6_95) (by decide +kernel) (rm_R rfl rfl), (hT _ qq_6_96)⟩ (pq_S hPc hK hN) rfl rfl hl.1 rfl (lv_room (Nat.le_of_ble_eq_true rfl)) dX12_hole_14 ⟨Nat.le_of_ble_eq_true rfl, Nat.le_of_ble_eq_true rfl⟩) (fun v9 hz_11 => ?_)
    obtain ⟨x_10, rfl, r_12⟩ := hz_11
    refine lv_if_ne (tgt := 23) hx hb dX12_hole_17 (by decide) (fun c_13 => ?_) (fun c_13 => ?_)
    · have r_14 : Rg 1 1 x_10 := Rg.ne c_13 r_12.1 (Rg.c (c := 0) (k := 0) rfl) (by decide)
      have r_15 : Rg 0 2 a := in_rg e_9 (r_12.2 c_13) (by decide) (by decide)
      refine lv_iload_n hx hb dX12_hole_23 rfl (lv_at hl 2 rfl) ?_
      refine lv_if_le (tgt := 36) hx hb dX12_hole_24 (by decide) (fun c_17 => ?_) (fun c_17 => ?_)
      · have r_18 : Rg 0 0 a := Rg.le_l c_17 r_15 (Rg.c (c := 0) (k := 0) rfl) (by decide)
        refine lv_iconst (v := 0) hx hb dX12_hole_36 (by decide) ?_
        refine lv_istore_n (lv' := [(3, .int 0), (0, .ref m0), (1, .int b), (2, .int a)]) hx hb dX12_hole_37 rfl hl (by decide) rfl (fun ls hl => ?_)
        refine w_wh (σ := (Int32)) (fun (v_30 : Int32) H locs ls => Rg 0 8 v_30 ∧ H = s.heap ∧ locs = [] ∧ va_P D vwCl [(m0, .inr (10, (.ref mtp :: .int sta :: .int sru :: .ref msg :: .ref mln :: .ref mcl :: .ref mcs :: .ref mrd :: .int snx :: .int swr :: .int snu :: .int ste :: .int sma :: .int sde :: .int sli :: .ref mop :: .int sod :: .ref mst :: .int sto :: .ref mwd :: .ref msd :: .int sx_ :: .ref mws :: .int sun :: .ref mfr :: .ref mqu :: .ref miw :: .int sfi :: .int swa :: .long sdx :: .ref mim :: .ref mix :: .ref mmd :: []))), (msd, .inl ((cs 0), 133, .inl gsd))] H ∧ lv_has ls 4 [(3, .int v_30), (0, .ref m0), (1, .int b), (2, .int a)]) (fun (v_30 : Int32) => (8 - Int32.toInt v_30).toNat) 38 ?_ 0 H locs ls ⟨(Rg.wk (lo2 := 0) (hi2 := 8) (Rg.c (c := 0) (k := 0) rfl) (by decide)), hHe, hlc, hP, lv_sub hl [0, 1, 2, 3] rfl⟩
        rintro v_30 H locs ls ⟨r_168, hHe, hlc, hP, hl⟩ ih_167
        refine lv_iload_n hx hb dX12_hole_38 rfl (lv_at hl 0 rfl) ?_
        refine lv_aload_n hx hb dX12_hole_39 rfl (lv_at hl 1 rfl) ?_
        refine va_get (D := D) (ci := 10) (v := .ref msd) (C := "WrongHoleModel") (T := TX12) (N := 33) hx hb hts (iq_RX12 _) hown hK hP 0 rfl rfl 20 (by decide) (hT _ qq_5_172) (fun _ h9 => h9) rfl dX12_hole_40 ?_
        refine lv_iconst (v := 0) hx hb dX12_hole_43 (by decide) ?_
        have hi_169 : vp_in 0 133 := vi_c rfl
        refine va_iald hx hb hK hP 1 0 rfl rfl hi_169 dX12_hole_44 ?_
        refine lv_topi (fun x_170 e_171 => ?_)
        have r_172 : Rg 0 8 x_170 := Rg.of e_171 (hsi.a0)
        refine lv_icmp_ge (tgt := 69) hx hb dX12_hole_45 (by decide) (fun c_173 => ?_) (fun c_173 => ?_)
        · refine lv_iconst (v := (-1)) hx hb dX12_hole_69 (by decide) ?_
          exact W.iret (v := (-1)) hx hb hr (fun t9 ht9 hW9 => ⟨⟨_, rfl, _, rfl⟩, ht9.trans hHe⟩) (fun _ h9 => by rw [hlc] at h9; exact absurd h9 List.not_mem_nil) dX12_hole_70
        · have r_174 : Rg 0 7 v_30 := Rg.lt_l (nle_lt c_173) r_168 r_172 (by decide)
          have r_175 : Rg 1 8 x_170 := Rg.lt_r (nle_lt c_173) r_168 r_172 (by decide)
          refine lv_aload_n hx hb dX12_hole_48 rfl (lv_at hl 1 rfl) ?_
          refine va_get (D := D) (ci := 10) (v := .ref msd) (C := "WrongHoleModel") (T := TX12) (N := 33) hx hb hts (iq_RX12 _) hown hK hP 0 rfl rfl 20 (by decide) (hT _ qq_5_172) (fun _ h9 => h9) rfl dX12_hole_49 ?_
          refine lv_bipush (v := 10) hx hb dX12_hole_52 (by decide) ?_
          refine lv_iload_n hx hb dX12_hole_54 rfl (lv_at hl 0 rfl) ?_
          refine lv_iadd hx hb dX12_hole_55 ?_
          refine lv_topi (fun x_176 e_177 => ?_)
          have r_178 : Rg 10 17 x_176 := Rg.add e_177 (Rg.c (c := 10) (k := 10) rfl) r_174 (by decide)
          have hi_179 : vp_in x_176 133 := Rg.in r_178 (by decide)
          refine va_iald hx hb hK hP 1 0 rfl rfl hi_179 dX12_hole_56 ?_
          refine lv_topi (fun x_180 e_181 => ?_)
          have r_182 : Rg (-1) 7 x_180 := Rg.of e_181 (hsi.li r_178 (by decide))
          refine lv_iload_n hx hb dX12_hole_57 rfl (lv_at hl 2 rfl) ?_
          refine lv_icmp_ne (tgt := 63) hx hb dX12_hole_58 (by decide) (fun c_183 => ?_) (fun c_183 => ?_)
          · obtain ⟨x_185, e_186⟩ : ∃ z : Int32, z = v_30 + Int32.ofInt 1 := ⟨_, rfl⟩
            have r_187 : Rg 1 8 x_185 := Rg.add e_186 r_174 (Rg.c (c := Int32.ofInt 1) (k := 1) rfl) (by decide)
            refine lv_iinc (v := x_185) (lv' := [(3, .int x_185), (0, .ref m0), (1, .int b), (2, .int a)]) hx hb dX12_hole_63 hl (k := 0) rfl (e_186.symm) (by decide) rfl (fun ls hl => ?_)
            refine lv_goto (tgt := 38) hx hb dX12_hole_66 (by decide) ?_
            exact ih_167 x_185 _ _ _ ⟨(Rg.wk (lo2 := 0) (hi2 := 8) r_187 (by decide)), hHe, hlc, hP, lv_sub hl [0, 1, 2, 3] rfl⟩ (ms_up e_186 r_174 (Rg.c (c := Int32.ofInt 1) (k := 1) rfl) (by decide))
          · have r_184 : Rg 0 7 x_180 := Rg.eq_l c_183 r_182 r_7 (by decide)
            refine lv_iload_n hx hb dX12_hole_61 rfl (lv_at hl 0 rfl) ?_
            exact W.iret (v := v_30) hx hb hr (fun t9 ht9 hW9 => ⟨⟨_, rfl, _, rfl⟩, ht9.trans hHe⟩) (fun _ h9 => by rw [hlc] at h9; exact absurd h9 List.not_mem_nil) dX12_hole_62
      · have r_19 : Rg 1 2 a := Rg.lt_r (nle_lt c_17) (Rg.c (c := 0) (k := 0) rfl) r_15 (by decide)
        refine lv_aload_n hx hb dX12_hole_27 rfl (lv_at hl 0 rfl) ?_
        refine lv_iload_n hx hb dX12_hole_28 rfl (lv_at hl 1 rfl) ?_
        refine lv_iload_n hx hb dX12_hole_29 rfl (lv_at hl 2 rfl) ?_
        refine lv_iconst (v := 1) hx hb dX12_hole_30 (by decide) ?_
        refine lv_isub hx hb dX12_hole_31 ?_
        refine lv_topi (fun x_188 e_189 => ?_)
        have r_190 : Rg 0 1 x_188 := Rg.sub e_189 r_19 (Rg.c (c := 1) (k := 1) rfl) (by decide)
        have hPc := va_P.sub (ws' := [(m0, .inr (10, (.ref mtp :: .int sta :: .int sru :: .ref msg :: .ref mln :: .ref mcl :: .ref mcs :: .ref mrd :: .int snx :: .int swr :: .int snu :: .int ste :: .int sma :: .int sde :: .int sli :: .ref mop :: .int sod :: .ref mst :: .int sto :: .ref mwd :: .ref msd :: .int sx_ :: .ref mws :: .int sun :: .ref mfr :: .ref mqu :: .ref miw :: .int sfi :: .int swa :: .long sdx :: .ref mim :: .ref mix :: .ref mmd :: []))), (msd, .inl ((cs 0), 133, .inl gsd))]) hP [0, 1] rfl
        refine cl_P (W.runV (As := [.int b, .int x_188]) (rest := []) ⟨hx, hb, hml, hown, hts⟩ (c_M_holeOf l D cs m0 mtp sta sru msg mln mcl mcs mrd snx swr snu ste sma sde sli mop sod mst sto mwd msd sx_ mws sun mfr mqu miw sfi swa sdx mim mix mmd gsd b x_188 hsi r_7 r_190) ⟨callB_of 2 hts (gd_C qq_7_29) rfl rfl rfl (hT _ qq_1_9) (hT _ qq_7_26) (by decide +kernel) (rm_R rfl rfl), (hT _ qq_7_28), (hT _ qs_5_0)⟩ (pq_V hPc hK hN (ci := 10) (q0 := 0) rfl rfl) rfl rfl hl.1 rfl (lv_room (Nat.le_of_ble_eq_true rfl)) dX12_hole_32 ⟨Nat.le_of_ble_eq_true rfl, Nat.le_of_ble_eq_true rfl⟩) (fun v9 hz_192 => ?_)
        obtain ⟨x_191, rfl⟩ := hz_192
        exact W.iret (v := x_191) hx hb hr (fun t9 ht9 hW9 => ⟨⟨_, rfl, _, rfl⟩, ht9.trans hHe⟩) (fun _ h9 => by rw [hlc] at h9; exact absurd h9 List.not_mem_nil) dX12_hole_35
    · have r_16 : Rg 0 0 x_10 := Rg.eq_l c_13 r_12.1 (Rg.c (c := 0) (k := 0) rfl) (by decide)
      refine lv_bipush (v := (-2)) hx hb dX12_hole_20 (by decide) ?_
      exact W.iret (v := (-2)) hx hb hr (fun t9 ht9 hW9 => ⟨⟨_, rfl, _, rfl⟩, ht9.trans hHe⟩) (fun _ h9 => by rw [hlc] at h9; exact absurd h9 List.not_mem_nil) dX12_hole_22
theorem dX12_row_0 : decode cX12_row 0 = .ok (.aload_n 0, 1) := by decide +kernel
theorem dX12_row_1 : decode cX12_row 1 = .ok (.invokevirtual 397, 3) := by decide +kernel
theorem dX12_row_4 : decode cX12_row 4 = .ok (.ifCond .eq 15, 3) := by decide +kernel
theorem dX12_row_19 : decode cX12_row 19 = .ok (.iconst (-1), 1) := by decide +kernel
theorem dX12_row_20 : decode cX12_row 20 = .ok (.ireturn, 1) := by decide +kernel
theorem dX12_row_7 : decode cX12_row 7 = .ok (.iload_n 1, 1) := by decide +kernel
theorem dX12_row_8 : decode cX12_row 8 = .ok (.i2l, 1) := by decide +kernel
theorem dX12_row_9 : decode cX12_row 9 = .ok (.lconst 0, 1) := by decide +kernel
theorem dX12_row_10 : decode cX12_row 10 = .ok (.ldc2_w 400, 3) := by decide +kernel
theorem qq_7_47 : Cond.constantLong "WrongHoleModel" 400 5 ∈ TB := mk_tb (ti_7 (List.mem_of_getElem? (i := 47) rfl)) rfl
theorem dX12_row_13 : decode cX12_row 13 = .ok (.invokestatic 104, 3) := by decide +kernel
theorem dX12_row_16 : decode cX12_row 16 = .ok (.ifCond .ne 5, 3) := by decide +kernel
theorem dX12_row_21 : decode cX12_row 21 = .ok (.aload_n 0, 1) := by decide +kernel
theorem dX12_row_22 : decode cX12_row 22 = .ok (.invokevirtual 402, 3) := by decide +kernel
theorem dX12_row_25 : decode cX12_row 25 = .ok (.istore_n 2, 1) := by decide +kernel
theorem dX12_row_26 : decode cX12_row 26 = .ok (.iload_n 1, 1) := by decide +kernel
theorem dX12_row_27 : decode cX12_row 27 = .ok (.tableswitch 80 0 4 #[33, 42, 51, 60, 66], 33) := by decide +kernel
theorem sw_0_4 (v : Int32) : (Int32.toInt v < 0 ∨ 4 < Int32.toInt v) ∨ v = 0 ∨ v = 1 ∨ v = 2 ∨ v = 3 ∨ v = 4 := by
  simp only [← Int32.toInt_inj]
  simp (config := { decide := true }) only [show Int32.toInt 0 = 0 from rfl, show Int32.toInt 1 = 1 from rfl, show Int32.toInt 2 = 2 from rfl, show Int32.toInt 3 = 3 from rfl, show Int32.toInt 4 = 4 from rfl]
  omega
theorem dX12_row_107 : decode cX12_row 107 = .ok (.aload_n 0, 1) := by decide +kernel
theorem dX12_row_108 : decode cX12_row 108 = .ok (.iload_n 2, 1) := by decide +kernel
theorem dX12_row_109 : decode cX12_row 109 = .ok (.invokevirtual 405, 3) := by decide +kernel
theorem qq_7_93 : Cond.code yX12_isGoal cX12_isGoal 2 (some .boolean) ∈ TB := mk_tb (ti_7 (List.mem_of_getElem? (i := 93) rfl)) rfl
theorem qq_7_90 : Cond.methodLink "WrongHoleModel" 405 yX12_isGoal ∈ TB := mk_tb (ti_7 (List.mem_of_getElem? (i := 90) rfl)) rfl
theorem qq_7_92 : Cond.instanceMethod yX12_isGoal ∈ TB := mk_tb (ti_7 (List.mem_of_getElem? (i := 92) rfl)) rfl
theorem qs_5_9 : Cond.selects "WrongHoleModel" yX12_isGoal yX12_isGoal ∈ TB := mk_tb (ti_s (q := (yX12_isGoal, 33)) (List.mem_append_right _ (List.mem_append_right _ (List.mem_append_right _ (List.mem_append_right _ (List.mem_append_right _ (List.mem_append_left _ (List.mem_of_getElem? (i := 9) rfl)))))))) rfl
theorem dX12_row_112 : decode cX12_row 112 = .ok (.ifCond .eq 7, 3) := by decide +kernel
theorem dX12_row_119 : decode cX12_row 119 = .ok (.iconst 0, 1) := by decide +kernel
theorem dX12_row_120 : decode cX12_row 120 = .ok (.ireturn, 1) := by decide +kernel
theorem dX12_row_115 : decode cX12_row 115 = .ok (.iconst 1, 1) := by decide +kernel
theorem dX12_row_116 : decode cX12_row 116 = .ok (.goto 4, 3) := by decide +kernel
theorem dX12_row_60 : decode cX12_row 60 = .ok (.aload_n 0, 1) := by decide +kernel
theorem dX12_row_61 : decode cX12_row 61 = .ok (.iload_n 2, 1) := by decide +kernel
theorem dX12_row_62 : decode cX12_row 62 = .ok (.invokevirtual 353, 3) := by decide +kernel
theorem dX12_row_65 : decode cX12_row 65 = .ok (.invokestatic 341, 3) := by decide +kernel
theorem dX12_row_68 : decode cX12_row 68 = .ok (.ireturn, 1) := by decide +kernel
theorem dX12_row_69 : decode cX12_row 69 = .ok (.aload_n 0, 1) := by decide +kernel
theorem dX12_row_70 : decode cX12_row 70 = .ok (.iload_n 2, 1) := by decide +kernel
theorem dX12_row_71 : decode cX12_row 71 = .ok (.invokevirtual 387, 3) := by decide +kernel
theorem dX12_row_74 : decode cX12_row 74 = .ok (.invokestatic 341, 3) := by decide +kernel
theorem dX12_row_77 : decode cX12_row 77 = .ok (.ireturn, 1) := by decide +kernel
theorem dX12_row_78 : decode cX12_row 78 = .ok (.aload_n 0, 1) := by decide +kernel
theorem dX12_row_79 : decode cX12_row 79 = .ok (.iload_n 2, 1) := by decide +kernel
theorem dX12_row_80 : decode cX12_row 80 = .ok (.invokevirtual 356, 3) := by decide +kernel
theorem dX12_row_83 : decode cX12_row 83 = .ok (.invokestatic 341, 3) := by decide +kernel
theorem dX12_row_86 : decode cX12_row 86 = .ok (.ireturn, 1) := by decide +kernel
theorem dX12_row_87 : decode cX12_row 87 = .ok (.aload_n 0, 1) := by decide +kernel
theorem dX12_row_88 : decode cX12_row 88 = .ok (.iload_n 2, 1) := by decide +kernel
theorem dX12_row_89 : decode cX12_row 89 = .ok (.invokevirtual 350, 3) := by decide +kernel
theorem dX12_row_92 : decode cX12_row 92 = .ok (.ireturn, 1) := by decide +kernel
theorem dX12_row_93 : decode cX12_row 93 = .ok (.aload_n 0, 1) := by decide +kernel
theorem dX12_row_94 : decode cX12_row 94 = .ok (.iload_n 2, 1) := by decide +kernel
theorem dX12_row_95 : decode cX12_row 95 = .ok (.invokevirtual 384, 3) := by decide +kernel
theorem dX12_row_98 : decode cX12_row 98 = .ok (.ifCond .eq 7, 3) := by decide +kernel
theorem dX12_row_105 : decode cX12_row 105 = .ok (.iconst 0, 1) := by decide +kernel
theorem dX12_row_106 : decode cX12_row 106 = .ok (.ireturn, 1) := by decide +kernel
theorem dX12_row_101 : decode cX12_row 101 = .ok (.iconst 1, 1) := by decide +kernel
theorem dX12_row_102 : decode cX12_row 102 = .ok (.goto 4, 3) := by decide +kernel
set_option maxHeartbeats 4000000 in
set_option maxRecDepth 100000 in
theorem c_M_row (l : Launch) (D : va_G) (cs : Nat → ClassId) (m0 : Nat) (mtp : Nat) (sta : Int32) (sru : Int32) (msg : Nat) (mln : Nat) (mcl : Nat) (mcs : Nat) (mrd : Nat) (snx : Int32) (swr : Int32) (snu : Int32) (ste : Int32) (sma : Int32) (sde : Int32) (sli : Int32) (mop : Nat) (sod : Int32) (mst : Nat) (sto : Int32) (mwd : Nat) (msd : Nat) (sx_ : Int32) (mws : Nat) (sun : Int32) (mfr : Nat) (mqu : Nat) (miw : Nat) (sfi : Int32) (swa : Int32) (sdx : Int64) (mim : Nat) (mix : Nat) (mmd : Nat) (gsd : Nat → Int32) (a : Int32) (hsi : SI gsd) : Met l yX12_row (Cond.code yX12_row cX12_row 3 (some .int) :: TB) (RM 5 0 0) (va_Pc [.ref m0, .int a] (PRR D cs [(m0, .inr (10, (.ref mtp :: .int sta :: .int sru :: .ref msg :: .ref mln :: .ref mcl :: .ref mcs :: .ref mrd :: .int snx :: .int swr :: .int snu :: .int ste :: .int sma :: .int sde :: .int sli :: .ref mop :: .int sod :: .ref mst :: .int sto :: .ref mwd :: .ref msd :: .int sx_ :: .ref mws :: .int sun :: .ref mfr :: .ref mqu :: .ref miw :: .int sfi :: .int swa :: .long sdx :: .ref mim :: .ref mix :: .ref mmd :: []))), (msd, .inl ((cs 0), 133, .inl gsd))])) (QP (fun v => ∃ x : Int32, v = .int x)) 0 0 (fun _ => False) := by
  refine MER (y := yX12_row) (cc := cX12_row) (maxL := 3) (ret := (some .int)) (d := 5) (D := D) (cs := cs) (ws := [(m0, .inr (10, (.ref mtp :: .int sta :: .int sru :: .ref msg :: .ref mln :: .ref mcl :: .ref mcs :: .ref mrd :: .int snx :: .int swr :: .int snu :: .int ste :: .int sma :: .int sde :: .int sli :: .ref mop :: .int sod :: .ref mst :: .int sto :: .ref mwd :: .ref msd :: .int sx_ :: .ref mws :: .int sun :: .ref mfr :: .ref mqu :: .ref miw :: .int sfi :: .int swa :: .long sdx :: .ref mim :: .ref mix :: .ref mmd :: []))), (msd, .inl ((cs 0), 133, .inl gsd))]) (av := [.ref m0, .int a]) (Qc := QP (fun v => ∃ x : Int32, v = .int x)) (by decide) (Nat.le_of_ble_eq_true rfl) ?_
  intro p e s m below meth c ls H hHe hx hb hr hml hown hts hlocks hP hK hN hl
  obtain ⟨locs, hlc⟩ : ∃ z : List Loc, z = [] := ⟨_, rfl⟩
  rw [← hlc]
  have hown : s.vm.findClass "WrongHoleModel" = some m.cls := hown
  have hT : ∀ w ∈ TB, w.before ([.ref m0, .int a] : List Value).toArray s = true := fun w h => hts w (List.mem_cons_of_mem _ h)
  have hl : lv_has ls 3 [(0, .ref m0), (1, .int a)] := hl
  have hP : va_P D vwCl [(m0, .inr (10, (.ref mtp :: .int sta :: .int sru :: .ref msg :: .ref mln :: .ref mcl :: .ref mcs :: .ref mrd :: .int snx :: .int swr :: .int snu :: .int ste :: .int sma :: .int sde :: .int sli :: .ref mop :: .int sod :: .ref mst :: .int sto :: .ref mwd :: .ref msd :: .int sx_ :: .ref mws :: .int sun :: .ref mfr :: .ref mqu :: .ref miw :: .int sfi :: .int swa :: .long sdx :: .ref mim :: .ref mix :: .ref mmd :: []))), (msd, .inl ((cs 0), 133, .inl gsd))] H := hP
  refine lv_aload_n hx hb dX12_row_0 rfl (lv_at hl 0 rfl) ?_
  have hPc := va_P.sub (ws' := [(m0, .inr (10, (.ref mtp :: .int sta :: .int sru :: .ref msg :: .ref mln :: .ref mcl :: .ref mcs :: .ref mrd :: .int snx :: .int swr :: .int snu :: .int ste :: .int sma :: .int sde :: .int sli :: .ref mop :: .int sod :: .ref mst :: .int sto :: .ref mwd :: .ref msd :: .int sx_ :: .ref mws :: .int sun :: .ref mfr :: .ref mqu :: .ref miw :: .int sfi :: .int swa :: .long sdx :: .ref mim :: .ref mix :: .ref mmd :: []))), (msd, .inl ((cs 0), 133, .inl gsd))]) hP [0, 1] rfl
  refine cl_P (W.runV (As := []) (rest := []) ⟨hx, hb, hml, hown, hts⟩ (c_M_isLift l D cs m0 mtp sta sru msg mln mcl mcs mrd snx swr snu ste sma sde sli mop sod mst sto mwd msd sx_ mws sun mfr mqu miw sfi swa sdx mim mix mmd gsd hsi) ⟨callB_of 0 hts (gd_C qq_7_46) rfl rfl rfl (hT _ qq_1_9) (hT _ qq_7_43) (by decide +kernel) (rm_R rfl rfl), (hT _ qq_7_45), (hT _ qs_5_2)⟩ (pq_V hPc hK hN (ci := 10) (q0 := 0) rfl rfl) rfl rfl hl.1 rfl (lv_room (Nat.le_of_ble_eq_true rfl)) dX12_row_1 ⟨Nat.le_of_ble_eq_true rfl, Nat.le_of_ble_eq_true rfl⟩) (fun v9 hz_2 => ?_)
  obtain ⟨x_1, rfl, r_3⟩ := hz_2
  refine lv_if_eq (tgt := 19) hx hb dX12_row_4 (by decide) (fun c_4 => ?_) (fun c_4 => ?_)
  · have r_5 : Rg 0 0 x_1 := Rg.eq_l c_4 r_3.1 (Rg.c (c := 0) (k := 0) rfl) (by decide)
    refine lv_iconst (v := (-1)) hx hb dX12_row_19 (by decide) ?_
    exact W.iret (v := (-1)) hx hb hr (fun t9 ht9 hW9 => ⟨⟨_, rfl, _, rfl⟩, ht9.trans hHe⟩) (fun _ h9 => by rw [hlc] at h9; exact absurd h9 List.not_mem_nil) dX12_row_20
  · have r_6 : Rg 1 1 x_1 := Rg.ne c_4 r_3.1 (Rg.c (c := 0) (k := 0) rfl) (by decide)
    refine lv_iload_n hx hb dX12_row_7 rfl (lv_at hl 1 rfl) ?_
    refine lv_i2l (v := Int32.toInt64 a) hx hb dX12_row_8 rfl ?_
    refine lv_topl (fun x_7 e_8 => ?_)
    refine lv_lconst (v := 0) hx hb dX12_row_9 (by decide) ?_
    refine lv_ldc2 (v := 5) hx hb hown (hT _ qq_7_47) dX12_row_10 ?_
    have hPc := va_P.sub (ws' := []) hP [] rfl
    refine cl_P (W.runS (As := [.long x_7, .long 0, .long 5]) (rest := []) ⟨hx, hb, hml, hown, hts⟩ (c_M_in l D cs x_7 0 5) ⟨callB_of 3 hts (gd_C qq_6_97) rfl rfl rfl (hT _ qq_1_9) (hT _ qq_6_95) (by decide +kernel) (rm_R rfl rfl), (hT _ qq_6_96)⟩ (pq_S hPc hK hN) rfl rfl hl.1 rfl (lv_room (Nat.le_of_ble_eq_true rfl)) dX12_row_13 ⟨Nat.le_of_ble_eq_true rfl, Nat.le_of_ble_eq_true rfl⟩) (fun v9 hz_10 => ?_)
    obtain ⟨x_9, rfl, r_11⟩ := hz_10
    refine lv_if_ne (tgt := 21) hx hb dX12_row_16 (by decide) (fun c_12 => ?_) (fun c_12 => ?_)
    · have r_13 : Rg 1 1 x_9 := Rg.ne c_12 r_11.1 (Rg.c (c := 0) (k := 0) rfl) (by decide)
      have r_14 : Rg 0 5 a := in_rg e_8 (r_11.2 c_12) (by decide) (by decide)
      refine lv_aload_n hx hb dX12_row_21 rfl (lv_at hl 0 rfl) ?_
      have hPc := va_P.sub (ws' := [(m0, .inr (10, (.ref mtp :: .int sta :: .int sru :: .ref msg :: .ref mln :: .ref mcl :: .ref mcs :: .ref mrd :: .int snx :: .int swr :: .int snu :: .int ste :: .int sma :: .int sde :: .int sli :: .ref mop :: .int sod :: .ref mst :: .int sto :: .ref mwd :: .ref msd :: .int sx_ :: .ref mws :: .int sun :: .ref mfr :: .ref mqu :: .ref miw :: .int sfi :: .int swa :: .long sdx :: .ref mim :: .ref mix :: .ref mmd :: []))), (msd, .inl ((cs 0), 133, .inl gsd))]) hP [0, 1] rfl
      refine cl_P (W.runV (As := []) (rest := []) ⟨hx, hb, hml, hown, hts⟩ (c_M_situationNow l D cs m0 mtp sta sru msg mln mcl mcs mrd snx swr snu ste sma sde sli mop sod mst sto mwd msd sx_ mws sun mfr mqu miw sfi swa sdx mim mix mmd gsd hsi) ⟨callB_of 0 hts (gd_C qq_7_51) rfl rfl rfl (hT _ qq_1_9) (hT _ qq_7_48) (by decide +kernel) (rm_R rfl rfl), (hT _ qq_7_50), (hT _ qs_5_3)⟩ (pq_V hPc hK hN (ci := 10) (q0 := 0) rfl rfl) rfl rfl hl.1 rfl (lv_room (Nat.le_of_ble_eq_true rfl)) dX12_row_22 ⟨Nat.le_of_ble_eq_true rfl, Nat.le_of_ble_eq_true rfl⟩) (fun v9 hz_17 => ?_)
      obtain ⟨x_16, rfl, r_18⟩ := hz_17
      refine lv_istore_n (lv' := [(2, .int x_16), (0, .ref m0), (1, .int a)]) hx hb dX12_row_25 rfl hl (by decide) rfl (fun ls hl => ?_)
      refine lv_iload_n hx hb dX12_row_26 rfl (lv_at hl 2 rfl) ?_
      rcases sw_0_4 a with c_19 | c_19 | c_19 | c_19 | c_19 | c_19
      · refine lv_tableOut (tgt := 107) hx hb dX12_row_27 c_19 (by decide) ?_
        refine lv_aload_n hx hb dX12_row_107 rfl (lv_at hl 1 rfl) ?_
        refine lv_iload_n hx hb dX12_row_108 rfl (lv_at hl 0 rfl) ?_
        have hPc := va_P.sub (ws' := [(m0, .inr (10, (.ref mtp :: .int sta :: .int sru :: .ref msg :: .ref mln :: .ref mcl :: .ref mcs :: .ref mrd :: .int snx :: .int swr :: .int snu :: .int ste :: .int sma :: .int sde :: .int sli :: .ref mop :: .int sod :: .ref mst :: .int sto :: .ref mwd :: .ref msd :: .int sx_ :: .ref mws :: .int sun :: .ref mfr :: .ref mqu :: .ref miw :: .int sfi :: .int swa :: .long sdx :: .ref mim :: .ref mix :: .ref mmd :: []))), (msd, .inl ((cs 0), 133, .inl gsd))]) hP [0, 1] rfl
        refine cl_P (W.runV (As := [.int x_16]) (rest := []) ⟨hx, hb, hml, hown, hts⟩ (c_M_isGoal l D cs m0 mtp sta sru msg mln mcl mcs mrd snx swr snu ste sma sde sli mop sod mst sto mwd msd sx_ mws sun mfr mqu miw sfi swa sdx mim mix mmd gsd x_16 hsi (r_18.1)) ⟨callB_of 1 hts (gd_C qq_7_93) rfl rfl rfl (hT _ qq_1_9) (hT _ qq_7_90) (by decide +kernel) (rm_R rfl rfl), (hT _ qq_7_92), (hT _ qs_5_9)⟩ (pq_V hPc hK hN (ci := 10) (q0 := 0) rfl rfl) rfl rfl hl.1 rfl (lv_room (Nat.le_of_ble_eq_true rfl)) dX12_row_109 ⟨Nat.le_of_ble_eq_true rfl, Nat.le_of_ble_eq_true rfl⟩) (fun v9 hz_26 => ?_)
        obtain ⟨x_25, rfl, r_27⟩ := hz_26
        refine lv_if_eq (tgt := 119) hx hb dX12_row_112 (by decide) (fun c_28 => ?_) (fun c_28 => ?_)
        · have r_29 : Rg 0 0 x_25 := Rg.eq_l c_28 r_27 (Rg.c (c := 0) (k := 0) rfl) (by decide)
          refine lv_iconst (v := 0) hx hb dX12_row_119 (by decide) ?_
          exact W.iret (v := 0) hx hb hr (fun t9 ht9 hW9 => ⟨⟨_, rfl, _, rfl⟩, ht9.trans hHe⟩) (fun _ h9 => by rw [hlc] at h9; exact absurd h9 List.not_mem_nil) dX12_row_120
        · have r_30 : Rg 1 1 x_25 := Rg.ne c_28 r_27 (Rg.c (c := 0) (k := 0) rfl) (by decide)
          refine lv_iconst (v := 1) hx hb dX12_row_115 (by decide) ?_
          refine lv_goto (tgt := 120) hx hb dX12_row_116 (by decide) ?_
          exact W.iret (v := 1) hx hb hr (fun t9 ht9 hW9 => ⟨⟨_, rfl, _, rfl⟩, ht9.trans hHe⟩) (fun _ h9 => by rw [hlc] at h9; exact absurd h9 List.not_mem_nil) dX12_row_120
      · refine tc_i 0 c_19 ?_
        have r_20 : Rg 0 0 a := Rg.of c_19 (Rg.c rfl)
        refine lv_tableIn (tgt := 60) hx hb dX12_row_27 (by decide) (by decide) rfl (by decide) ?_
        refine lv_aload_n hx hb dX12_row_60 rfl (lv_at hl 1 rfl) ?_
        refine lv_iload_n hx hb dX12_row_61 rfl (lv_at hl 0 rfl) ?_
        have hPc := va_P.sub (ws' := [(m0, .inr (10, (.ref mtp :: .int sta :: .int sru :: .ref msg :: .ref mln :: .ref mcl :: .ref mcs :: .ref mrd :: .int snx :: .int swr :: .int snu :: .int ste :: .int sma :: .int sde :: .int sli :: .ref mop :: .int sod :: .ref mst :: .int sto :: .ref mwd :: .ref msd :: .int sx_ :: .ref mws :: .int sun :: .ref mfr :: .ref mqu :: .ref miw :: .int sfi :: .int swa :: .long sdx :: .ref mim :: .ref mix :: .ref mmd :: []))), (msd, .inl ((cs 0), 133, .inl gsd))]) hP [0, 1] rfl
        refine cl_V (W.runV (As := [.int x_16]) (rest := []) ⟨hx, hb, hml, hown, hts⟩ (c_M_openIn l D cs m0 mtp sta sru msg mln mcl mcs mrd snx swr snu ste sma sde sli mop sod mst sto mwd msd sx_ mws sun mfr mqu miw sfi swa sdx mim mix mmd gsd x_16 hsi r_18.1.1) ⟨callB_of 1 hts (gd_C qq_7_55) rfl rfl rfl (hT _ qq_1_9) (hT _ qq_7_52) (by decide +kernel) (rm_R rfl rfl), (hT _ qq_7_54), (hT _ qs_5_4)⟩ (pq_V hPc hK hN (ci := 10) (q0 := 0) rfl rfl) rfl rfl hl.1 rfl (lv_room (Nat.le_of_ble_eq_true rfl)) dX12_row_62 ⟨Nat.le_of_ble_eq_true rfl, Nat.le_of_ble_eq_true rfl⟩) ?_
        refine lv_topi (fun x_31 e_32 => ?_)
        have r_33 : Rg 0 255 x_31 := Rg.of e_32 (op_rg (hsi) _)
        have hPc := va_P.sub (ws' := []) hP [] rfl
        refine cl_V (W.runS (As := [.int x_31]) (rest := []) ⟨hx, hb, hml, hown, hts⟩ (c_M_bits l D cs x_31 r_33) ⟨callB_of 1 hts (gd_C qq_7_61) rfl rfl rfl (hT _ qq_1_9) (hT _ qq_7_59) (by decide +kernel) (rm_R rfl rfl), (hT _ qq_7_60)⟩ (pq_S hPc hK hN) rfl rfl hl.1 rfl (lv_room (Nat.le_of_ble_eq_true rfl)) dX12_row_65 ⟨Nat.le_of_ble_eq_true rfl, Nat.le_of_ble_eq_true rfl⟩) ?_
        refine lv_topi (fun x_34 e_35 => ?_)
        have r_36 : Rg 0 8 x_34 := Rg.of e_35 (pc_rg _)
        exact W.iret (v := x_34) hx hb hr (fun t9 ht9 hW9 => ⟨⟨_, rfl, _, rfl⟩, ht9.trans hHe⟩) (fun _ h9 => by rw [hlc] at h9; exact absurd h9 List.not_mem_nil) dX12_row_68
      · refine tc_i 1 c_19 ?_
        have r_21 : Rg 1 1 a := Rg.of c_19 (Rg.c rfl)
        refine lv_tableIn (tgt := 69) hx hb dX12_row_27 (by decide) (by decide) rfl (by decide) ?_
        refine lv_aload_n hx hb dX12_row_69 rfl (lv_at hl 1 rfl) ?_
        refine lv_iload_n hx hb dX12_row_70 rfl (lv_at hl 0 rfl) ?_
        have hPc := va_P.sub (ws' := [(m0, .inr (10, (.ref mtp :: .int sta :: .int sru :: .ref msg :: .ref mln :: .ref mcl :: .ref mcs :: .ref mrd :: .int snx :: .int swr :: .int snu :: .int ste :: .int sma :: .int sde :: .int sli :: .ref mop :: .int sod :: .ref mst :: .int sto :: .ref mwd :: .ref msd :: .int sx_ :: .ref mws :: .int sun :: .ref mfr :: .ref mqu :: .ref miw :: .int sfi :: .int swa :: .long sdx :: .ref mim :: .ref mix :: .ref mmd :: []))), (msd, .inl ((cs 0), 133, .inl gsd))]) hP [0, 1] rfl
        refine cl_P (W.runV (As := [.int x_16]) (rest := []) ⟨hx, hb, hml, hown, hts⟩ (c_M_wrongIn l D cs m0 mtp sta sru msg mln mcl mcs mrd snx swr snu ste sma sde sli mop sod mst sto mwd msd sx_ mws sun mfr mqu miw sfi swa sdx mim mix mmd gsd x_16 hsi (r_18.1)) ⟨callB_of 1 hts (gd_C qq_7_65) rfl rfl rfl (hT _ qq_1_9) (hT _ qq_7_62) (by decide +kernel) (rm_R rfl rfl), (hT _ qq_7_64), (hT _ qs_5_5)⟩ (pq_V hPc hK hN (ci := 10) (q0 := 0) rfl rfl) rfl rfl hl.1 rfl (lv_room (Nat.le_of_ble_eq_true rfl)) dX12_row_71 ⟨Nat.le_of_ble_eq_true rfl, Nat.le_of_ble_eq_true rfl⟩) (fun v9 hz_38 => ?_)
        obtain ⟨x_37, rfl, r_39⟩ := hz_38
        have hPc := va_P.sub (ws' := []) hP [] rfl
        refine cl_V (W.runS (As := [.int x_37]) (rest := []) ⟨hx, hb, hml, hown, hts⟩ (c_M_bits l D cs x_37 r_39) ⟨callB_of 1 hts (gd_C qq_7_61) rfl rfl rfl (hT _ qq_1_9) (hT _ qq_7_59) (by decide +kernel) (rm_R rfl rfl), (hT _ qq_7_60)⟩ (pq_S hPc hK hN) rfl rfl hl.1 rfl (lv_room (Nat.le_of_ble_eq_true rfl)) dX12_row_74 ⟨Nat.le_of_ble_eq_true rfl, Nat.le_of_ble_eq_true rfl⟩) ?_
        refine lv_topi (fun x_40 e_41 => ?_)
        have r_42 : Rg 0 8 x_40 := Rg.of e_41 (pc_rg _)
        exact W.iret (v := x_40) hx hb hr (fun t9 ht9 hW9 => ⟨⟨_, rfl, _, rfl⟩, ht9.trans hHe⟩) (fun _ h9 => by rw [hlc] at h9; exact absurd h9 List.not_mem_nil) dX12_row_77
      · refine tc_i 2 c_19 ?_
        have r_22 : Rg 2 2 a := Rg.of c_19 (Rg.c rfl)
        refine lv_tableIn (tgt := 78) hx hb dX12_row_27 (by decide) (by decide) rfl (by decide) ?_
        refine lv_aload_n hx hb dX12_row_78 rfl (lv_at hl 1 rfl) ?_
        refine lv_iload_n hx hb dX12_row_79 rfl (lv_at hl 0 rfl) ?_
        have hPc := va_P.sub (ws' := [(m0, .inr (10, (.ref mtp :: .int sta :: .int sru :: .ref msg :: .ref mln :: .ref mcl :: .ref mcs :: .ref mrd :: .int snx :: .int swr :: .int snu :: .int ste :: .int sma :: .int sde :: .int sli :: .ref mop :: .int sod :: .ref mst :: .int sto :: .ref mwd :: .ref msd :: .int sx_ :: .ref mws :: .int sun :: .ref mfr :: .ref mqu :: .ref miw :: .int sfi :: .int swa :: .long sdx :: .ref mim :: .ref mix :: .ref mmd :: []))), (msd, .inl ((cs 0), 133, .inl gsd))]) hP [0, 1] rfl
        refine cl_P (W.runV (As := [.int x_16]) (rest := []) ⟨hx, hb, hml, hown, hts⟩ (c_M_rightIn l D cs m0 mtp sta sru msg mln mcl mcs mrd snx swr snu ste sma sde sli mop sod mst sto mwd msd sx_ mws sun mfr mqu miw sfi swa sdx mim mix mmd gsd x_16 hsi (r_18.1)) ⟨callB_of 1 hts (gd_C qq_7_69) rfl rfl rfl (hT _ qq_1_9) (hT _ qq_7_66) (by decide +kernel) (rm_R rfl rfl), (hT _ qq_7_68), (hT _ qs_5_6)⟩ (pq_V hPc hK hN (ci := 10) (q0 := 0) rfl rfl) rfl rfl hl.1 rfl (lv_room (Nat.le_of_ble_eq_true rfl)) dX12_row_80 ⟨Nat.le_of_ble_eq_true rfl, Nat.le_of_ble_eq_true rfl⟩) (fun v9 hz_44 => ?_)
        obtain ⟨x_43, rfl, r_45⟩ := hz_44
        have hPc := va_P.sub (ws' := []) hP [] rfl
        refine cl_V (W.runS (As := [.int x_43]) (rest := []) ⟨hx, hb, hml, hown, hts⟩ (c_M_bits l D cs x_43 r_45) ⟨callB_of 1 hts (gd_C qq_7_61) rfl rfl rfl (hT _ qq_1_9) (hT _ qq_7_59) (by decide +kernel) (rm_R rfl rfl), (hT _ qq_7_60)⟩ (pq_S hPc hK hN) rfl rfl hl.1 rfl (lv_room (Nat.le_of_ble_eq_true rfl)) dX12_row_83 ⟨Nat.le_of_ble_eq_true rfl, Nat.le_of_ble_eq_true rfl⟩) ?_
        refine lv_topi (fun x_46 e_47 => ?_)
        have r_48 : Rg 0 8 x_46 := Rg.of e_47 (pc_rg _)
        exact W.iret (v := x_46) hx hb hr (fun t9 ht9 hW9 => ⟨⟨_, rfl, _, rfl⟩, ht9.trans hHe⟩) (fun _ h9 => by rw [hlc] at h9; exact absurd h9 List.not_mem_nil) dX12_row_86
      · refine tc_i 3 c_19 ?_
        have r_23 : Rg 3 3 a := Rg.of c_19 (Rg.c rfl)
        refine lv_tableIn (tgt := 87) hx hb dX12_row_27 (by decide) (by decide) rfl (by decide) ?_
        refine lv_aload_n hx hb dX12_row_87 rfl (lv_at hl 1 rfl) ?_
        refine lv_iload_n hx hb dX12_row_88 rfl (lv_at hl 0 rfl) ?_
        have hPc := va_P.sub (ws' := [(m0, .inr (10, (.ref mtp :: .int sta :: .int sru :: .ref msg :: .ref mln :: .ref mcl :: .ref mcs :: .ref mrd :: .int snx :: .int swr :: .int snu :: .int ste :: .int sma :: .int sde :: .int sli :: .ref mop :: .int sod :: .ref mst :: .int sto :: .ref mwd :: .ref msd :: .int sx_ :: .ref mws :: .int sun :: .ref mfr :: .ref mqu :: .ref miw :: .int sfi :: .int swa :: .long sdx :: .ref mim :: .ref mix :: .ref mmd :: []))), (msd, .inl ((cs 0), 133, .inl gsd))]) hP [0, 1] rfl
        refine cl_V (W.runV (As := [.int x_16]) (rest := []) ⟨hx, hb, hml, hown, hts⟩ (c_M_runIn l D cs m0 mtp sta sru msg mln mcl mcs mrd snx swr snu ste sma sde sli mop sod mst sto mwd msd sx_ mws sun mfr mqu miw sfi swa sdx mim mix mmd gsd x_16 hsi r_18.1.1) ⟨callB_of 1 hts (gd_C qq_7_85) rfl rfl rfl (hT _ qq_1_9) (hT _ qq_7_82) (by decide +kernel) (rm_R rfl rfl), (hT _ qq_7_84), (hT _ qs_5_7)⟩ (pq_V hPc hK hN (ci := 10) (q0 := 0) rfl rfl) rfl rfl hl.1 rfl (lv_room (Nat.le_of_ble_eq_true rfl)) dX12_row_89 ⟨Nat.le_of_ble_eq_true rfl, Nat.le_of_ble_eq_true rfl⟩) ?_
        refine lv_topi (fun x_49 e_50 => ?_)
        have r_51 : Rg 0 8 x_49 := Rg.of e_50 (run_rg (hsi) _)
        exact W.iret (v := x_49) hx hb hr (fun t9 ht9 hW9 => ⟨⟨_, rfl, _, rfl⟩, ht9.trans hHe⟩) (fun _ h9 => by rw [hlc] at h9; exact absurd h9 List.not_mem_nil) dX12_row_92
      · refine tc_i 4 c_19 ?_
        have r_24 : Rg 4 4 a := Rg.of c_19 (Rg.c rfl)
        refine lv_tableIn (tgt := 93) hx hb dX12_row_27 (by decide) (by decide) rfl (by decide) ?_
        refine lv_aload_n hx hb dX12_row_93 rfl (lv_at hl 1 rfl) ?_
        refine lv_iload_n hx hb dX12_row_94 rfl (lv_at hl 0 rfl) ?_
        have hPc := va_P.sub (ws' := [(m0, .inr (10, (.ref mtp :: .int sta :: .int sru :: .ref msg :: .ref mln :: .ref mcl :: .ref mcs :: .ref mrd :: .int snx :: .int swr :: .int snu :: .int ste :: .int sma :: .int sde :: .int sli :: .ref mop :: .int sod :: .ref mst :: .int sto :: .ref mwd :: .ref msd :: .int sx_ :: .ref mws :: .int sun :: .ref mfr :: .ref mqu :: .ref miw :: .int sfi :: .int swa :: .long sdx :: .ref mim :: .ref mix :: .ref mmd :: []))), (msd, .inl ((cs 0), 133, .inl gsd))]) hP [0, 1] rfl
        refine cl_V (W.runV (As := [.int x_16]) (rest := []) ⟨hx, hb, hml, hown, hts⟩ (c_M_isLawful l D cs m0 mtp sta sru msg mln mcl mcs mrd snx swr snu ste sma sde sli mop sod mst sto mwd msd sx_ mws sun mfr mqu miw sfi swa sdx mim mix mmd gsd x_16 hsi r_18.1.1) ⟨callB_of 1 hts (gd_C qq_7_89) rfl rfl rfl (hT _ qq_1_9) (hT _ qq_7_86) (by decide +kernel) (rm_R rfl rfl), (hT _ qq_7_88), (hT _ qs_5_8)⟩ (pq_V hPc hK hN (ci := 10) (q0 := 0) rfl rfl) rfl rfl hl.1 rfl (lv_room (Nat.le_of_ble_eq_true rfl)) dX12_row_95 ⟨Nat.le_of_ble_eq_true rfl, Nat.le_of_ble_eq_true rfl⟩) ?_
        refine lv_topi (fun x_52 e_53 => ?_)
        have r_54 : Rg 0 1 x_52 := Rg.of e_53 (law_rg _ _)
        refine lv_if_eq (tgt := 105) hx hb dX12_row_98 (by decide) (fun c_55 => ?_) (fun c_55 => ?_)
        · have r_56 : Rg 0 0 x_52 := Rg.eq_l c_55 r_54 (Rg.c (c := 0) (k := 0) rfl) (by decide)
          refine lv_iconst (v := 0) hx hb dX12_row_105 (by decide) ?_
          exact W.iret (v := 0) hx hb hr (fun t9 ht9 hW9 => ⟨⟨_, rfl, _, rfl⟩, ht9.trans hHe⟩) (fun _ h9 => by rw [hlc] at h9; exact absurd h9 List.not_mem_nil) dX12_row_106
        · have r_57 : Rg 1 1 x_52 := Rg.ne c_55 r_54 (Rg.c (c := 0) (k := 0) rfl) (by decide)
          refine lv_iconst (v := 1) hx hb dX12_row_101 (by decide) ?_
          refine lv_goto (tgt := 106) hx hb dX12_row_102 (by decide) ?_
          exact W.iret (v := 1) hx hb hr (fun t9 ht9 hW9 => ⟨⟨_, rfl, _, rfl⟩, ht9.trans hHe⟩) (fun _ h9 => by rw [hlc] at h9; exact absurd h9 List.not_mem_nil) dX12_row_106
    · have r_15 : Rg 0 0 x_9 := Rg.eq_l c_12 r_11.1 (Rg.c (c := 0) (k := 0) rfl) (by decide)
      refine lv_iconst (v := (-1)) hx hb dX12_row_19 (by decide) ?_
      exact W.iret (v := (-1)) hx hb hr (fun t9 ht9 hW9 => ⟨⟨_, rfl, _, rfl⟩, ht9.trans hHe⟩) (fun _ h9 => by rw [hlc] at h9; exact absurd h9 List.not_mem_nil) dX12_row_20
theorem dX12_shown_0 : decode cX12_shown 0 = .ok (.aload_n 0, 1) := by decide +kernel
theorem dX12_shown_1 : decode cX12_shown 1 = .ok (.invokevirtual 397, 3) := by decide +kernel
theorem dX12_shown_4 : decode cX12_shown 4 = .ok (.ifCond .eq 27, 3) := by decide +kernel
theorem qq_7_102 : Cond.constantLong "WrongHoleModel" 408 9999 ∈ TB := mk_tb (ti_7 (List.mem_of_getElem? (i := 102) rfl)) rfl
theorem dX12_shown_31 : decode cX12_shown 31 = .ok (.iconst (-1), 1) := by decide +kernel
theorem dX12_shown_32 : decode cX12_shown 32 = .ok (.ireturn, 1) := by decide +kernel
theorem dX12_shown_7 : decode cX12_shown 7 = .ok (.iload_n 1, 1) := by decide +kernel
theorem dX12_shown_8 : decode cX12_shown 8 = .ok (.i2l, 1) := by decide +kernel
theorem dX12_shown_9 : decode cX12_shown 9 = .ok (.lconst 0, 1) := by decide +kernel
theorem dX12_shown_10 : decode cX12_shown 10 = .ok (.ldc2_w 408, 3) := by decide +kernel
theorem dX12_shown_13 : decode cX12_shown 13 = .ok (.invokestatic 104, 3) := by decide +kernel
theorem dX12_shown_16 : decode cX12_shown 16 = .ok (.ifCond .eq 15, 3) := by decide +kernel
theorem dX12_shown_19 : decode cX12_shown 19 = .ok (.aload_n 0, 1) := by decide +kernel
theorem dX12_shown_20 : decode cX12_shown 20 = .ok (.aload_n 0, 1) := by decide +kernel
theorem dX12_shown_21 : decode cX12_shown 21 = .ok (.invokevirtual 402, 3) := by decide +kernel
theorem dX12_shown_24 : decode cX12_shown 24 = .ok (.iload_n 1, 1) := by decide +kernel
theorem dX12_shown_25 : decode cX12_shown 25 = .ok (.invokevirtual 410, 3) := by decide +kernel
theorem qq_7_106 : Cond.code yX12_shownIn cX12_shownIn 6 (some .int) ∈ TB := mk_tb (ti_7 (List.mem_of_getElem? (i := 106) rfl)) rfl
theorem qq_7_103 : Cond.methodLink "WrongHoleModel" 410 yX12_shownIn ∈ TB := mk_tb (ti_7 (List.mem_of_getElem? (i := 103) rfl)) rfl
theorem qq_7_105 : Cond.instanceMethod yX12_shownIn ∈ TB := mk_tb (ti_7 (List.mem_of_getElem? (i := 105) rfl)) rfl
theorem qs_5_11 : Cond.selects "WrongHoleModel" yX12_shownIn yX12_shownIn ∈ TB := mk_tb (ti_s (q := (yX12_shownIn, 33)) (List.mem_append_right _ (List.mem_append_right _ (List.mem_append_right _ (List.mem_append_right _ (List.mem_append_right _ (List.mem_append_left _ (List.mem_of_getElem? (i := 11) rfl)))))))) rfl
theorem dX12_shown_28 : decode cX12_shown 28 = .ok (.goto 4, 3) := by decide +kernel
set_option maxHeartbeats 4000000 in
set_option maxRecDepth 100000 in
theorem c_M_shown (l : Launch) (D : va_G) (cs : Nat → ClassId) (m0 : Nat) (mtp : Nat) (sta : Int32) (sru : Int32) (msg : Nat) (mln : Nat) (mcl : Nat) (mcs : Nat) (mrd : Nat) (snx : Int32) (swr : Int32) (snu : Int32) (ste : Int32) (sma : Int32) (sde : Int32) (sli : Int32) (mop : Nat) (sod : Int32) (mst : Nat) (sto : Int32) (mwd : Nat) (msd : Nat) (sx_ : Int32) (mws : Nat) (sun : Int32) (mfr : Nat) (mqu : Nat) (miw : Nat) (sfi : Int32) (swa : Int32) (sdx : Int64) (mim : Nat) (mix : Nat) (mmd : Nat) (gsd : Nat → Int32) (a : Int32) (hsi : SI gsd) : Met l yX12_shown (Cond.code yX12_shown cX12_shown 2 (some .int) :: TB) (RM 6 0 0) (va_Pc [.ref m0, .int a] (PRR D cs [(m0, .inr (10, (.ref mtp :: .int sta :: .int sru :: .ref msg :: .ref mln :: .ref mcl :: .ref mcs :: .ref mrd :: .int snx :: .int swr :: .int snu :: .int ste :: .int sma :: .int sde :: .int sli :: .ref mop :: .int sod :: .ref mst :: .int sto :: .ref mwd :: .ref msd :: .int sx_ :: .ref mws :: .int sun :: .ref mfr :: .ref mqu :: .ref miw :: .int sfi :: .int swa :: .long sdx :: .ref mim :: .ref mix :: .ref mmd :: []))), (msd, .inl ((cs 0), 133, .inl gsd))])) (QP (fun v => ∃ x : Int32, v = .int x)) 0 0 (fun _ => False) := by
  refine MER (y := yX12_shown) (cc := cX12_shown) (maxL := 2) (ret := (some .int)) (d := 6) (D := D) (cs := cs) (ws := [(m0, .inr (10, (.ref mtp :: .int sta :: .int sru :: .ref msg :: .ref mln :: .ref mcl :: .ref mcs :: .ref mrd :: .int snx :: .int swr :: .int snu :: .int ste :: .int sma :: .int sde :: .int sli :: .ref mop :: .int sod :: .ref mst :: .int sto :: .ref mwd :: .ref msd :: .int sx_ :: .ref mws :: .int sun :: .ref mfr :: .ref mqu :: .ref miw :: .int sfi :: .int swa :: .long sdx :: .ref mim :: .ref mix :: .ref mmd :: []))), (msd, .inl ((cs 0), 133, .inl gsd))]) (av := [.ref m0, .int a]) (Qc := QP (fun v => ∃ x : Int32, v = .int x)) (by decide) (Nat.le_of_ble_eq_true rfl) ?_
  intro p e s m below meth c ls H hHe hx hb hr hml hown hts hlocks hP hK hN hl
  obtain ⟨locs, hlc⟩ : ∃ z : List Loc, z = [] := ⟨_, rfl⟩
  rw [← hlc]
  have hown : s.vm.findClass "WrongHoleModel" = some m.cls := hown
  have hT : ∀ w ∈ TB, w.before ([.ref m0, .int a] : List Value).toArray s = true := fun w h => hts w (List.mem_cons_of_mem _ h)
  have hl : lv_has ls 2 [(0, .ref m0), (1, .int a)] := hl
  have hP : va_P D vwCl [(m0, .inr (10, (.ref mtp :: .int sta :: .int sru :: .ref msg :: .ref mln :: .ref mcl :: .ref mcs :: .ref mrd :: .int snx :: .int swr :: .int snu :: .int ste :: .int sma :: .int sde :: .int sli :: .ref mop :: .int sod :: .ref mst :: .int sto :: .ref mwd :: .ref msd :: .int sx_ :: .ref mws :: .int sun :: .ref mfr :: .ref mqu :: .ref miw :: .int sfi :: .int swa :: .long sdx :: .ref mim :: .ref mix :: .ref mmd :: []))), (msd, .inl ((cs 0), 133, .inl gsd))] H := hP
  refine lv_aload_n hx hb dX12_shown_0 rfl (lv_at hl 0 rfl) ?_
  have hPc := va_P.sub (ws' := [(m0, .inr (10, (.ref mtp :: .int sta :: .int sru :: .ref msg :: .ref mln :: .ref mcl :: .ref mcs :: .ref mrd :: .int snx :: .int swr :: .int snu :: .int ste :: .int sma :: .int sde :: .int sli :: .ref mop :: .int sod :: .ref mst :: .int sto :: .ref mwd :: .ref msd :: .int sx_ :: .ref mws :: .int sun :: .ref mfr :: .ref mqu :: .ref miw :: .int sfi :: .int swa :: .long sdx :: .ref mim :: .ref mix :: .ref mmd :: []))), (msd, .inl ((cs 0), 133, .inl gsd))]) hP [0, 1] rfl
  refine cl_P (W.runV (As := []) (rest := []) ⟨hx, hb, hml, hown, hts⟩ (c_M_isLift l D cs m0 mtp sta sru msg mln mcl mcs mrd snx swr snu ste sma sde sli mop sod mst sto mwd msd sx_ mws sun mfr mqu miw sfi swa sdx mim mix mmd gsd hsi) ⟨callB_of 0 hts (gd_C qq_7_46) rfl rfl rfl (hT _ qq_1_9) (hT _ qq_7_43) (by decide +kernel) (rm_R rfl rfl), (hT _ qq_7_45), (hT _ qs_5_2)⟩ (pq_V hPc hK hN (ci := 10) (q0 := 0) rfl rfl) rfl rfl hl.1 rfl (lv_room (Nat.le_of_ble_eq_true rfl)) dX12_shown_1 ⟨Nat.le_of_ble_eq_true rfl, Nat.le_of_ble_eq_true rfl⟩) (fun v9 hz_2 => ?_)
  obtain ⟨x_1, rfl, r_3⟩ := hz_2
  refine lv_if_eq (tgt := 31) hx hb dX12_shown_4 (by decide) (fun c_4 => ?_) (fun c_4 => ?_)
  · have r_5 : Rg 0 0 x_1 := Rg.eq_l c_4 r_3.1 (Rg.c (c := 0) (k := 0) rfl) (by decide)
    refine lv_iconst (v := (-1)) hx hb dX12_shown_31 (by decide) ?_
    exact W.iret (v := (-1)) hx hb hr (fun t9 ht9 hW9 => ⟨⟨_, rfl, _, rfl⟩, ht9.trans hHe⟩) (fun _ h9 => by rw [hlc] at h9; exact absurd h9 List.not_mem_nil) dX12_shown_32
  · have r_6 : Rg 1 1 x_1 := Rg.ne c_4 r_3.1 (Rg.c (c := 0) (k := 0) rfl) (by decide)
    refine lv_iload_n hx hb dX12_shown_7 rfl (lv_at hl 1 rfl) ?_
    refine lv_i2l (v := Int32.toInt64 a) hx hb dX12_shown_8 rfl ?_
    refine lv_topl (fun x_22 e_23 => ?_)
    refine lv_lconst (v := 0) hx hb dX12_shown_9 (by decide) ?_
    refine lv_ldc2 (v := 9999) hx hb hown (hT _ qq_7_102) dX12_shown_10 ?_
    have hPc := va_P.sub (ws' := []) hP [] rfl
    refine cl_P (W.runS (As := [.long x_22, .long 0, .long 9999]) (rest := []) ⟨hx, hb, hml, hown, hts⟩ (c_M_in l D cs x_22 0 9999) ⟨callB_of 3 hts (gd_C qq_6_97) rfl rfl rfl (hT _ qq_1_9) (hT _ qq_6_95) (by decide +kernel) (rm_R rfl rfl), (hT _ qq_6_96)⟩ (pq_S hPc hK hN) rfl rfl hl.1 rfl (lv_room (Nat.le_of_ble_eq_true rfl)) dX12_shown_13 ⟨Nat.le_of_ble_eq_true rfl, Nat.le_of_ble_eq_true rfl⟩) (fun v9 hz_25 => ?_)
    obtain ⟨x_24, rfl, r_26⟩ := hz_25
    refine lv_if_eq (tgt := 31) hx hb dX12_shown_16 (by decide) (fun c_27 => ?_) (fun c_27 => ?_)
    · have r_28 : Rg 0 0 x_24 := Rg.eq_l c_27 r_26.1 (Rg.c (c := 0) (k := 0) rfl) (by decide)
      refine lv_iconst (v := (-1)) hx hb dX12_shown_31 (by decide) ?_
      exact W.iret (v := (-1)) hx hb hr (fun t9 ht9 hW9 => ⟨⟨_, rfl, _, rfl⟩, ht9.trans hHe⟩) (fun _ h9 => by rw [hlc] at h9; exact absurd h9 List.not_mem_nil) dX12_shown_32
    · have r_29 : Rg 1 1 x_24 := Rg.ne c_27 r_26.1 (Rg.c (c := 0) (k := 0) rfl) (by decide)
      have r_30 : Rg 0 9999 a := in_rg e_23 (r_26.2 c_27) (by decide) (by decide)
      refine lv_aload_n hx hb dX12_shown_19 rfl (lv_at hl 0 rfl) ?_
      refine lv_aload_n hx hb dX12_shown_20 rfl (lv_at hl 0 rfl) ?_
      have hPc := va_P.sub (ws' := [(m0, .inr (10, (.ref mtp :: .int sta :: .int sru :: .ref msg :: .ref mln :: .ref mcl :: .ref mcs :: .ref mrd :: .int snx :: .int swr :: .int snu :: .int ste :: .int sma :: .int sde :: .int sli :: .ref mop :: .int sod :: .ref mst :: .int sto :: .ref mwd :: .ref msd :: .int sx_ :: .ref mws :: .int sun :: .ref mfr :: .ref mqu :: .ref miw :: .int sfi :: .int swa :: .long sdx :: .ref mim :: .ref mix :: .ref mmd :: []))), (msd, .inl ((cs 0), 133, .inl gsd))]) hP [0, 1] rfl
      refine cl_P (W.runV (As := []) (rest := [.ref m0]) ⟨hx, hb, hml, hown, hts⟩ (c_M_situationNow l D cs m0 mtp sta sru msg mln mcl mcs mrd snx swr snu ste sma sde sli mop sod mst sto mwd msd sx_ mws sun mfr mqu miw sfi swa sdx mim mix mmd gsd hsi) ⟨callB_of 0 hts (gd_C qq_7_51) rfl rfl rfl (hT _ qq_1_9) (hT _ qq_7_48) (by decide +kernel) (rm_R rfl rfl), (hT _ qq_7_50), (hT _ qs_5_3)⟩ (pq_V hPc hK hN (ci := 10) (q0 := 0) rfl rfl) rfl rfl hl.1 rfl (lv_room (Nat.le_of_ble_eq_true rfl)) dX12_shown_21 ⟨Nat.le_of_ble_eq_true rfl, Nat.le_of_ble_eq_true rfl⟩) (fun v9 hz_38 => ?_)
      obtain ⟨x_37, rfl, r_39⟩ := hz_38
      refine lv_iload_n hx hb dX12_shown_24 rfl (lv_at hl 1 rfl) ?_
      have hPc := va_P.sub (ws' := [(m0, .inr (10, (.ref mtp :: .int sta :: .int sru :: .ref msg :: .ref mln :: .ref mcl :: .ref mcs :: .ref mrd :: .int snx :: .int swr :: .int snu :: .int ste :: .int sma :: .int sde :: .int sli :: .ref mop :: .int sod :: .ref mst :: .int sto :: .ref mwd :: .ref msd :: .int sx_ :: .ref mws :: .int sun :: .ref mfr :: .ref mqu :: .ref miw :: .int sfi :: .int swa :: .long sdx :: .ref mim :: .ref mix :: .ref mmd :: []))), (msd, .inl ((cs 0), 133, .inl gsd))]) hP [0, 1] rfl
      refine cl_P (W.runV (As := [.int x_37, .int a]) (rest := []) ⟨hx, hb, hml, hown, hts⟩ (c_M_shownIn l D cs m0 mtp sta sru msg mln mcl mcs mrd snx swr snu ste sma sde sli mop sod mst sto mwd msd sx_ mws sun mfr mqu miw sfi swa sdx mim mix mmd gsd x_37 a hsi (r_39.1)) ⟨callB_of 2 hts (gd_C qq_7_106) rfl rfl rfl (hT _ qq_1_9) (hT _ qq_7_103) (by decide +kernel) (rm_R rfl rfl), (hT _ qq_7_105), (hT _ qs_5_11)⟩ (pq_V hPc hK hN (ci := 10) (q0 := 0) rfl rfl) rfl rfl hl.1 rfl (lv_room (Nat.le_of_ble_eq_true rfl)) dX12_shown_25 ⟨Nat.le_of_ble_eq_true rfl, Nat.le_of_ble_eq_true rfl⟩) (fun v9 hz_41 => ?_)
      obtain ⟨x_40, rfl⟩ := hz_41
      refine lv_goto (tgt := 32) hx hb dX12_shown_28 (by decide) ?_
      exact W.iret (v := x_40) hx hb hr (fun t9 ht9 hW9 => ⟨⟨_, rfl, _, rfl⟩, ht9.trans hHe⟩) (fun _ h9 => by rw [hlc] at h9; exact absurd h9 List.not_mem_nil) dX12_shown_32
