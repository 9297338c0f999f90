theorem dX12_goes_0 : decode cX12_goes 0 = .ok (.aload_n 0, 1) := by decide +kernel
theorem dX12_goes_1 : decode cX12_goes 1 = .ok (.invokevirtual 397, 3) := by decide +kernel
theorem dX12_goes_4 : decode cX12_goes 4 = .ok (.ifCond .eq 15, 3) := by decide +kernel
theorem dX12_goes_19 : decode cX12_goes 19 = .ok (.iconst (-1), 1) := by decide +kernel
theorem dX12_goes_20 : decode cX12_goes 20 = .ok (.ireturn, 1) := by decide +kernel
theorem dX12_goes_7 : decode cX12_goes 7 = .ok (.iload_n 1, 1) := by decide +kernel
theorem dX12_goes_8 : decode cX12_goes 8 = .ok (.i2l, 1) := by decide +kernel
theorem dX12_goes_9 : decode cX12_goes 9 = .ok (.lconst 1, 1) := by decide +kernel
theorem dX12_goes_10 : decode cX12_goes 10 = .ok (.ldc2_w 493, 3) := by decide +kernel
theorem qq_8_31 : Cond.constantLong "WrongHoleModel" 493 8 ∈ TB := mk_tb (ti_8 (List.mem_of_getElem? (i := 31) rfl)) rfl
theorem dX12_goes_13 : decode cX12_goes 13 = .ok (.invokestatic 104, 3) := by decide +kernel
theorem dX12_goes_16 : decode cX12_goes 16 = .ok (.ifCond .ne 5, 3) := by decide +kernel
theorem dX12_goes_21 : decode cX12_goes 21 = .ok (.iconst 0, 1) := by decide +kernel
theorem dX12_goes_22 : decode cX12_goes 22 = .ok (.istore_n 2, 1) := by decide +kernel
theorem dX12_goes_23 : decode cX12_goes 23 = .ok (.iconst 0, 1) := by decide +kernel
theorem dX12_goes_24 : decode cX12_goes 24 = .ok (.istore_n 3, 1) := by decide +kernel
theorem dX12_goes_25 : decode cX12_goes 25 = .ok (.iconst 0, 1) := by decide +kernel
theorem dX12_goes_26 : decode cX12_goes 26 = .ok (.istore 4, 2) := by decide +kernel
theorem dX12_goes_28 : decode cX12_goes 28 = .ok (.iload 4, 2) := by decide +kernel
theorem dX12_goes_30 : decode cX12_goes 30 = .ok (.aload_n 0, 1) := by decide +kernel
theorem dX12_goes_31 : decode cX12_goes 31 = .ok (.getfield 39, 3) := by decide +kernel
theorem dX12_goes_34 : decode cX12_goes 34 = .ok (.iconst 0, 1) := by decide +kernel
theorem dX12_goes_35 : decode cX12_goes 35 = .ok (.iaload, 1) := by decide +kernel
theorem dX12_goes_36 : decode cX12_goes 36 = .ok (.if_icmp .gt 121, 3) := by decide +kernel
theorem dX12_goes_157 : decode cX12_goes 157 = .ok (.iload_n 2, 1) := by decide +kernel
theorem dX12_goes_158 : decode cX12_goes 158 = .ok (.ireturn, 1) := by decide +kernel
theorem dX12_goes_39 : decode cX12_goes 39 = .ok (.aload_n 0, 1) := by decide +kernel
theorem dX12_goes_40 : decode cX12_goes 40 = .ok (.iload 4, 2) := by decide +kernel
theorem dX12_goes_42 : decode cX12_goes 42 = .ok (.invokevirtual 365, 3) := by decide +kernel
theorem dX12_goes_45 : decode cX12_goes 45 = .ok (.ifCond .eq 35, 3) := by decide +kernel
theorem dX12_goes_81 : decode cX12_goes 81 = .ok (.istore 5, 2) := by decide +kernel
theorem dX12_goes_83 : decode cX12_goes 83 = .ok (.iload 5, 2) := by decide +kernel
theorem dX12_goes_85 : decode cX12_goes 85 = .ok (.ifCond .eq 38, 3) := by decide +kernel
theorem dX12_goes_124 : decode cX12_goes 124 = .ok (.istore 6, 2) := by decide +kernel
theorem dX12_goes_126 : decode cX12_goes 126 = .ok (.iload 6, 2) := by decide +kernel
theorem dX12_goes_128 : decode cX12_goes 128 = .ok (.ifCond .ne 15, 3) := by decide +kernel
theorem dX12_goes_143 : decode cX12_goes 143 = .ok (.iload 5, 2) := by decide +kernel
theorem dX12_goes_145 : decode cX12_goes 145 = .ok (.ifCond .eq 6, 3) := by decide +kernel
theorem dX12_goes_151 : decode cX12_goes 151 = .ok (.iinc 4 1, 3) := by decide +kernel
theorem dX12_goes_154 : decode cX12_goes 154 = .ok (.goto (-126), 3) := by decide +kernel
theorem dX12_goes_148 : decode cX12_goes 148 = .ok (.iinc 3 1, 3) := by decide +kernel
theorem dX12_goes_131 : decode cX12_goes 131 = .ok (.iload_n 2, 1) := by decide +kernel
theorem dX12_goes_132 : decode cX12_goes 132 = .ok (.iload_n 3, 1) := by decide +kernel
theorem dX12_goes_133 : decode cX12_goes 133 = .ok (.iload_n 1, 1) := by decide +kernel
theorem dX12_goes_134 : decode cX12_goes 134 = .ok (.iadd, 1) := by decide +kernel
theorem dX12_goes_135 : decode cX12_goes 135 = .ok (.iconst 1, 1) := by decide +kernel
theorem dX12_goes_136 : decode cX12_goes 136 = .ok (.isub, 1) := by decide +kernel
theorem dX12_goes_137 : decode cX12_goes 137 = .ok (.iload_n 1, 1) := by decide +kernel
theorem dX12_goes_138 : decode cX12_goes 138 = .ok (.idiv, 1) := by decide +kernel
theorem dX12_goes_139 : decode cX12_goes 139 = .ok (.iadd, 1) := by decide +kernel
theorem dX12_goes_140 : decode cX12_goes 140 = .ok (.istore_n 2, 1) := by decide +kernel
theorem dX12_goes_141 : decode cX12_goes 141 = .ok (.iconst 0, 1) := by decide +kernel
theorem dX12_goes_142 : decode cX12_goes 142 = .ok (.istore_n 3, 1) := by decide +kernel
theorem dX12_goes_123 : decode cX12_goes 123 = .ok (.iconst 0, 1) := by decide +kernel
theorem dX12_goes_88 : decode cX12_goes 88 = .ok (.iload_n 3, 1) := by decide +kernel
theorem dX12_goes_89 : decode cX12_goes 89 = .ok (.ifCond .le 34, 3) := by decide +kernel
theorem dX12_goes_92 : decode cX12_goes 92 = .ok (.aload_n 0, 1) := by decide +kernel
theorem dX12_goes_93 : decode cX12_goes 93 = .ok (.getfield 39, 3) := by decide +kernel
theorem dX12_goes_96 : decode cX12_goes 96 = .ok (.bipush 10, 2) := by decide +kernel
theorem dX12_goes_98 : decode cX12_goes 98 = .ok (.iload 4, 2) := by decide +kernel
theorem dX12_goes_100 : decode cX12_goes 100 = .ok (.iadd, 1) := by decide +kernel
theorem dX12_goes_101 : decode cX12_goes 101 = .ok (.iaload, 1) := by decide +kernel
theorem dX12_goes_102 : decode cX12_goes 102 = .ok (.aload_n 0, 1) := by decide +kernel
theorem dX12_goes_103 : decode cX12_goes 103 = .ok (.getfield 39, 3) := by decide +kernel
theorem dX12_goes_106 : decode cX12_goes 106 = .ok (.bipush 10, 2) := by decide +kernel
theorem dX12_goes_108 : decode cX12_goes 108 = .ok (.iload 4, 2) := by decide +kernel
theorem dX12_goes_110 : decode cX12_goes 110 = .ok (.iadd, 1) := by decide +kernel
theorem dX12_goes_111 : decode cX12_goes 111 = .ok (.iconst 1, 1) := by decide +kernel
theorem dX12_goes_112 : decode cX12_goes 112 = .ok (.isub, 1) := by decide +kernel
theorem dX12_goes_113 : decode cX12_goes 113 = .ok (.iaload, 1) := by decide +kernel
theorem dX12_goes_114 : decode cX12_goes 114 = .ok (.iconst 1, 1) := by decide +kernel
theorem dX12_goes_115 : decode cX12_goes 115 = .ok (.iadd, 1) := by decide +kernel
theorem dX12_goes_116 : decode cX12_goes 116 = .ok (.if_icmp .ne 7, 3) := by decide +kernel
theorem dX12_goes_119 : decode cX12_goes 119 = .ok (.iconst 1, 1) := by decide +kernel
theorem dX12_goes_120 : decode cX12_goes 120 = .ok (.goto 4, 3) := by decide +kernel
theorem dX12_goes_80 : decode cX12_goes 80 = .ok (.iconst 0, 1) := by decide +kernel
theorem dX12_goes_48 : decode cX12_goes 48 = .ok (.aload_n 0, 1) := by decide +kernel
theorem dX12_goes_49 : decode cX12_goes 49 = .ok (.getfield 39, 3) := by decide +kernel
theorem dX12_goes_52 : decode cX12_goes 52 = .ok (.bipush 10, 2) := by decide +kernel
theorem dX12_goes_54 : decode cX12_goes 54 = .ok (.iload 4, 2) := by decide +kernel
theorem dX12_goes_56 : decode cX12_goes 56 = .ok (.iadd, 1) := by decide +kernel
theorem dX12_goes_57 : decode cX12_goes 57 = .ok (.iaload, 1) := by decide +kernel
theorem dX12_goes_58 : decode cX12_goes 58 = .ok (.ifCond .lt 22, 3) := by decide +kernel
theorem dX12_goes_61 : decode cX12_goes 61 = .ok (.aload_n 0, 1) := by decide +kernel
theorem dX12_goes_62 : decode cX12_goes 62 = .ok (.getfield 39, 3) := by decide +kernel
theorem dX12_goes_65 : decode cX12_goes 65 = .ok (.bipush 10, 2) := by decide +kernel
theorem dX12_goes_67 : decode cX12_goes 67 = .ok (.iload 4, 2) := by decide +kernel
theorem dX12_goes_69 : decode cX12_goes 69 = .ok (.iadd, 1) := by decide +kernel
theorem dX12_goes_70 : decode cX12_goes 70 = .ok (.iaload, 1) := by decide +kernel
theorem dX12_goes_71 : decode cX12_goes 71 = .ok (.iload 4, 2) := by decide +kernel
theorem dX12_goes_73 : decode cX12_goes 73 = .ok (.if_icmp .eq 7, 3) := by decide +kernel
theorem dX12_goes_76 : decode cX12_goes 76 = .ok (.iconst 1, 1) := by decide +kernel
theorem dX12_goes_77 : decode cX12_goes 77 = .ok (.goto 4, 3) := by decide +kernel
set_option maxHeartbeats 4000000 in
set_option maxRecDepth 100000 in
theorem c_M_goes (l : Launch) (D : va_G) (cs : Nat → ClassId) (m0 : Nat) (mtp : Nat) (sta : Int32) (sru : Int32) (msg : Nat) (mln : Nat) (mcl : Nat) (mcs : Nat) (mrd : Nat) (snx : Int32) (swr : Int32) (snu : Int32) (ste : Int32) (sma : Int32) (sde : Int32) (sli : Int32) (mop : Nat) (sod : Int32) (mst : Nat) (sto : Int32) (mwd : Nat) (msd : Nat) (sx_ : Int32) (mws : Nat) (sun : Int32) (mfr : Nat) (mqu : Nat) (miw : Nat) (sfi : Int32) (swa : Int32) (sdx : Int64) (mim : Nat) (mix : Nat) (mmd : Nat) (gsd : Nat → Int32) (a : Int32) (hsi : SI gsd) : Met l yX12_goes (Cond.code yX12_goes cX12_goes 7 (some .int) :: TB) (RM 1 0 0) (va_Pc [.ref m0, .int a] (PRR D cs [(m0, .inr (10, (.ref mtp :: .int sta :: .int sru :: .ref msg :: .ref mln :: .ref mcl :: .ref mcs :: .ref mrd :: .int snx :: .int swr :: .int snu :: .int ste :: .int sma :: .int sde :: .int sli :: .ref mop :: .int sod :: .ref mst :: .int sto :: .ref mwd :: .ref msd :: .int sx_ :: .ref mws :: .int sun :: .ref mfr :: .ref mqu :: .ref miw :: .int sfi :: .int swa :: .long sdx :: .ref mim :: .ref mix :: .ref mmd :: []))), (msd, .inl ((cs 0), 133, .inl gsd))])) (QP (fun v => ∃ x : Int32, v = .int x)) 0 0 (fun _ => False) := by
  refine MER (y := yX12_goes) (cc := cX12_goes) (maxL := 7) (ret := (some .int)) (d := 1) (D := D) (cs := cs) (ws := [(m0, .inr (10, (.ref mtp :: .int sta :: .int sru :: .ref msg :: .ref mln :: .ref mcl :: .ref mcs :: .ref mrd :: .int snx :: .int swr :: .int snu :: .int ste :: .int sma :: .int sde :: .int sli :: .ref mop :: .int sod :: .ref mst :: .int sto :: .ref mwd :: .ref msd :: .int sx_ :: .ref mws :: .int sun :: .ref mfr :: .ref mqu :: .ref miw :: .int sfi :: .int swa :: .long sdx :: .ref mim :: .ref mix :: .ref mmd :: []))), (msd, .inl ((cs 0), 133, .inl gsd))]) (av := [.ref m0, .int a]) (Qc := QP (fun v => ∃ x : Int32, v = .int x)) (by decide) (Nat.le_of_ble_eq_true rfl) ?_
  intro p e s m below meth c ls H hHe hx hb hr hml hown hts hlocks hP hK hN hl
  obtain ⟨locs, hlc⟩ : ∃ z : List Loc, z = [] := ⟨_, rfl⟩
  rw [← hlc]
  have hown : s.vm.findClass "WrongHoleModel" = some m.cls := hown
  have hT : ∀ w ∈ TB, w.before ([.ref m0, .int a] : List Value).toArray s = true := fun w h => hts w (List.mem_cons_of_mem _ h)
  have hl : lv_has ls 7 [(0, .ref m0), (1, .int a)] := hl
  have hP : va_P D vwCl [(m0, .inr (10, (.ref mtp :: .int sta :: .int sru :: .ref msg :: .ref mln :: .ref mcl :: .ref mcs :: .ref mrd :: .int snx :: .int swr :: .int snu :: .int ste :: .int sma :: .int sde :: .int sli :: .ref mop :: .int sod :: .ref mst :: .int sto :: .ref mwd :: .ref msd :: .int sx_ :: .ref mws :: .int sun :: .ref mfr :: .ref mqu :: .ref miw :: .int sfi :: .int swa :: .long sdx :: .ref mim :: .ref mix :: .ref mmd :: []))), (msd, .inl ((cs 0), 133, .inl gsd))] H := hP
  refine lv_aload_n hx hb dX12_goes_0 rfl (lv_at hl 0 rfl) ?_
  have hPc := va_P.sub (ws' := [(m0, .inr (10, (.ref mtp :: .int sta :: .int sru :: .ref msg :: .ref mln :: .ref mcl :: .ref mcs :: .ref mrd :: .int snx :: .int swr :: .int snu :: .int ste :: .int sma :: .int sde :: .int sli :: .ref mop :: .int sod :: .ref mst :: .int sto :: .ref mwd :: .ref msd :: .int sx_ :: .ref mws :: .int sun :: .ref mfr :: .ref mqu :: .ref miw :: .int sfi :: .int swa :: .long sdx :: .ref mim :: .ref mix :: .ref mmd :: []))), (msd, .inl ((cs 0), 133, .inl gsd))]) hP [0, 1] rfl
  refine cl_P (W.runV (As := []) (rest := []) ⟨hx, hb, hml, hown, hts⟩ (c_M_isLift l D cs m0 mtp sta sru msg mln mcl mcs mrd snx swr snu ste sma sde sli mop sod mst sto mwd msd sx_ mws sun mfr mqu miw sfi swa sdx mim mix mmd gsd hsi) ⟨callB_of 0 hts (gd_C qq_7_46) rfl rfl rfl (hT _ qq_1_9) (hT _ qq_7_43) (by decide +kernel) (rm_R rfl rfl), (hT _ qq_7_45), (hT _ qs_5_2)⟩ (pq_V hPc hK hN (ci := 10) (q0 := 0) rfl rfl) rfl rfl hl.1 rfl (lv_room (Nat.le_of_ble_eq_true rfl)) dX12_goes_1 ⟨Nat.le_of_ble_eq_true rfl, Nat.le_of_ble_eq_true rfl⟩) (fun v9 hz_2 => ?_)
  obtain ⟨x_1, rfl, r_3⟩ := hz_2
  refine lv_if_eq (tgt := 19) hx hb dX12_goes_4 (by decide) (fun c_4 => ?_) (fun c_4 => ?_)
  · have r_5 : Rg 0 0 x_1 := Rg.eq_l c_4 r_3.1 (Rg.c (c := 0) (k := 0) rfl) (by decide)
    refine lv_iconst (v := (-1)) hx hb dX12_goes_19 (by decide) ?_
    exact W.iret (v := (-1)) hx hb hr (fun t9 ht9 hW9 => ⟨⟨_, rfl, _, rfl⟩, ht9.trans hHe⟩) (fun _ h9 => by rw [hlc] at h9; exact absurd h9 List.not_mem_nil) dX12_goes_20
  · have r_6 : Rg 1 1 x_1 := Rg.ne c_4 r_3.1 (Rg.c (c := 0) (k := 0) rfl) (by decide)
    refine lv_iload_n hx hb dX12_goes_7 rfl (lv_at hl 1 rfl) ?_
    refine lv_i2l (v := Int32.toInt64 a) hx hb dX12_goes_8 rfl ?_
    refine lv_topl (fun x_7 e_8 => ?_)
    refine lv_lconst (v := 1) hx hb dX12_goes_9 (by decide) ?_
    refine lv_ldc2 (v := 8) hx hb hown (hT _ qq_8_31) dX12_goes_10 ?_
    have hPc := va_P.sub (ws' := []) hP [] rfl
    refine cl_P (W.runS (As := [.long x_7, .long 1, .long 8]) (rest := []) ⟨hx, hb, hml, hown, hts⟩ (c_M_in l D cs x_7 1 8) ⟨callB_of 3 hts (gd_C qq_6_97) rfl rfl rfl (hT _ qq_1_9) (hT _ qq_6_95) (by decide +kernel) (rm_R rfl rfl), (hT _ qq_6_96)⟩ (pq_S hPc hK hN) rfl rfl hl.1 rfl (lv_room (Nat.le_of_ble_eq_true rfl)) dX12_goes_13 ⟨Nat.le_of_ble_eq_true rfl, Nat.le_of_ble_eq_true rfl⟩) (fun v9 hz_10 => ?_)
    obtain ⟨x_9, rfl, r_11⟩ := hz_10
    refine lv_if_ne (tgt := 21) hx hb dX12_goes_16 (by decide) (fun c_12 => ?_) (fun c_12 => ?_)
    · have r_13 : Rg 1 1 x_9 := Rg.ne c_12 r_11.1 (Rg.c (c := 0) (k := 0) rfl) (by decide)
      have r_14 : Rg 1 8 a := in_rg e_8 (r_11.2 c_12) (by decide) (by decide)
      refine lv_iconst (v := 0) hx hb dX12_goes_21 (by decide) ?_
      refine lv_istore_n (lv' := [(2, .int 0), (0, .ref m0), (1, .int a)]) hx hb dX12_goes_22 rfl hl (by decide) rfl (fun ls hl => ?_)
      refine lv_iconst (v := 0) hx hb dX12_goes_23 (by decide) ?_
      refine lv_istore_n (lv' := [(3, .int 0), (2, .int 0), (0, .ref m0), (1, .int a)]) hx hb dX12_goes_24 rfl hl (by decide) rfl (fun ls hl => ?_)
      refine lv_iconst (v := 0) hx hb dX12_goes_25 (by decide) ?_
      refine lv_istore (lv' := [(4, .int 0), (3, .int 0), (2, .int 0), (0, .ref m0), (1, .int a)]) hx hb dX12_goes_26 hl (by decide) rfl (fun ls hl => ?_)
      refine w_wh (σ := (Int32) × (Int32) × (Int32)) (fun x9 H locs ls => match x9 with | (v_67, v_68, v_69) => Rg 0 9 v_67 ∧ H = s.heap ∧ locs = [] ∧ va_P D vwCl [(m0, .inr (10, (.ref mtp :: .int sta :: .int sru :: .ref msg :: .ref mln :: .ref mcl :: .ref mcs :: .ref mrd :: .int snx :: .int swr :: .int snu :: .int ste :: .int sma :: .int sde :: .int sli :: .ref mop :: .int sod :: .ref mst :: .int sto :: .ref mwd :: .ref msd :: .int sx_ :: .ref mws :: .int sun :: .ref mfr :: .ref mqu :: .ref miw :: .int sfi :: .int swa :: .long sdx :: .ref mim :: .ref mix :: .ref mmd :: []))), (msd, .inl ((cs 0), 133, .inl gsd))] H ∧ lv_has ls 7 [(4, .int v_67), (3, .int v_68), (2, .int v_69), (0, .ref m0), (1, .int a)]) (fun x9 => match x9 with | (v_67, v_68, v_69) => (9 - Int32.toInt v_67).toNat) 28 ?_ (0, 0, 0) H locs ls ⟨(Rg.wk (lo2 := 0) (hi2 := 9) (Rg.c (c := 0) (k := 0) rfl) (by decide)), hHe, hlc, hP, lv_sub hl [0, 1, 2, 3, 4] rfl⟩
      rintro ⟨v_67, v_68, v_69⟩ H locs ls ⟨r_2547, hHe, hlc, hP, hl⟩ ih_2546
      refine lv_iload hx hb dX12_goes_28 (lv_at hl 0 rfl) ?_
      refine lv_aload_n hx hb dX12_goes_30 rfl (lv_at hl 3 rfl) ?_
      refine va_get (D := D) (ci := 10) (v := .ref msd) (C := "WrongHoleModel") (T := TX12) (N := 33) hx hb hts (iq_RX12 _) hown hK hP 0 rfl rfl 20 (by decide) (hT _ qq_5_172) (fun _ h9 => h9) rfl dX12_goes_31 ?_
      refine lv_iconst (v := 0) hx hb dX12_goes_34 (by decide) ?_
      have hi_2548 : vp_in 0 133 := vi_c rfl
      refine va_iald hx hb hK hP 1 0 rfl rfl hi_2548 dX12_goes_35 ?_
      refine lv_topi (fun x_2549 e_2550 => ?_)
      have r_2551 : Rg 0 8 x_2549 := Rg.of e_2550 (hsi.a0)
      refine lv_icmp_gt (tgt := 157) hx hb dX12_goes_36 (by decide) (fun c_2552 => ?_) (fun c_2552 => ?_)
      · have r_2553 : Rg 1 9 v_67 := Rg.lt_r c_2552 r_2551 r_2547 (by decide)
        refine lv_iload_n hx hb dX12_goes_157 rfl (lv_at hl 2 rfl) ?_
        exact W.iret (v := v_69) hx hb hr (fun t9 ht9 hW9 => ⟨⟨_, rfl, _, rfl⟩, ht9.trans hHe⟩) (fun _ h9 => by rw [hlc] at h9; exact absurd h9 List.not_mem_nil) dX12_goes_158
      · have r_2554 : Rg 0 8 v_67 := Rg.le_l (nlt_le c_2552) r_2547 r_2551 (by decide)
        refine lv_aload_n hx hb dX12_goes_39 rfl (lv_at hl 3 rfl) ?_
        refine lv_iload hx hb dX12_goes_40 (lv_at hl 0 rfl) ?_
        have hPc := va_P.sub (ws' := [(m0, .inr (10, (.ref mtp :: .int sta :: .int sru :: .ref msg :: .ref mln :: .ref mcl :: .ref mcs :: .ref mrd :: .int snx :: .int swr :: .int snu :: .int ste :: .int sma :: .int sde :: .int sli :: .ref mop :: .int sod :: .ref mst :: .int sto :: .ref mwd :: .ref msd :: .int sx_ :: .ref mws :: .int sun :: .ref mfr :: .ref mqu :: .ref miw :: .int sfi :: .int swa :: .long sdx :: .ref mim :: .ref mix :: .ref mmd :: []))), (msd, .inl ((cs 0), 133, .inl gsd))]) hP [0, 1] rfl
        refine cl_P (W.runV (As := [.int v_67]) (rest := []) ⟨hx, hb, hml, hown, hts⟩ (c_M_isButton l D cs m0 mtp sta sru msg mln mcl mcs mrd snx swr snu ste sma sde sli mop sod mst sto mwd msd sx_ mws sun mfr mqu miw sfi swa sdx mim mix mmd gsd v_67 hsi) ⟨callB_of 1 hts (gd_C qq_7_4) rfl rfl rfl (hT _ qq_1_9) (hT _ qq_7_1) (by decide +kernel) (rm_R rfl rfl), (hT _ qq_7_3), (hT _ qs_4_10)⟩ (pq_V hPc hK hN (ci := 10) (q0 := 0) rfl rfl) rfl rfl hl.1 rfl (lv_room (Nat.le_of_ble_eq_true rfl)) dX12_goes_42 ⟨Nat.le_of_ble_eq_true rfl, Nat.le_of_ble_eq_true rfl⟩) (fun v9 hz_2672 => ?_)
        obtain ⟨x_2671, rfl, r_2673⟩ := hz_2672
        refine w_cut (σ := (Int32)) (fun (v_2695 : Int32) H locs ls => Rg 0 1 v_2695 ∧ H = s.heap ∧ locs = [] ∧ va_P D vwCl [(m0, .inr (10, (.ref mtp :: .int sta :: .int sru :: .ref msg :: .ref mln :: .ref mcl :: .ref mcs :: .ref mrd :: .int snx :: .int swr :: .int snu :: .int ste :: .int sma :: .int sde :: .int sli :: .ref mop :: .int sod :: .ref mst :: .int sto :: .ref mwd :: .ref msd :: .int sx_ :: .ref mws :: .int sun :: .ref mfr :: .ref mqu :: .ref miw :: .int sfi :: .int swa :: .long sdx :: .ref mim :: .ref mix :: .ref mmd :: []))), (msd, .inl ((cs 0), 133, .inl gsd))] H ∧ lv_has ls 7 [(4, .int v_67), (3, .int v_68), (2, .int v_69), (0, .ref m0), (1, .int a)]) 81 (fun (v_2695 : Int32) => [.int v_2695]) ?_ (fun hj_2696 => ?_)
        · rintro v_2695 H locs ls ⟨r_2697, hHe, hlc, hP, hl⟩
          refine lv_istore (lv' := [(5, .int v_2695), (4, .int v_67), (3, .int v_68), (2, .int v_69), (0, .ref m0), (1, .int a)]) hx hb dX12_goes_81 hl (by decide) rfl (fun ls hl => ?_)
          refine lv_iload hx hb dX12_goes_83 (lv_at hl 0 rfl) ?_
          refine w_cut (σ := (Int32)) (fun (v_2720 : Int32) H locs ls => Rg 0 1 v_2720 ∧ H = s.heap ∧ locs = [] ∧ va_P D vwCl [(m0, .inr (10, (.ref mtp :: .int sta :: .int sru :: .ref msg :: .ref mln :: .ref mcl :: .ref mcs :: .ref mrd :: .int snx :: .int swr :: .int snu :: .int ste :: .int sma :: .int sde :: .int sli :: .ref mop :: .int sod :: .ref mst :: .int sto :: .ref mwd :: .ref msd :: .int sx_ :: .ref mws :: .int sun :: .ref mfr :: .ref mqu :: .ref miw :: .int sfi :: .int swa :: .long sdx :: .ref mim :: .ref mix :: .ref mmd :: []))), (msd, .inl ((cs 0), 133, .inl gsd))] H ∧ lv_has ls 7 [(5, .int v_2695), (4, .int v_67), (3, .int v_68), (2, .int v_69), (0, .ref m0), (1, .int a)]) 124 (fun (v_2720 : Int32) => [.int v_2720]) ?_ (fun hj_2721 => ?_)
          · rintro v_2720 H locs ls ⟨r_2722, hHe, hlc, hP, hl⟩
            refine lv_istore (lv' := [(6, .int v_2720), (5, .int v_2695), (4, .int v_67), (3, .int v_68), (2, .int v_69), (0, .ref m0), (1, .int a)]) hx hb dX12_goes_124 hl (by decide) rfl (fun ls hl => ?_)
            refine lv_iload hx hb dX12_goes_126 (lv_at hl 0 rfl) ?_
            refine w_cut (σ := (Int32) × (Int32)) (fun x9 H locs ls => match x9 with | (v_2734, v_2735) => H = s.heap ∧ locs = [] ∧ va_P D vwCl [(m0, .inr (10, (.ref mtp :: .int sta :: .int sru :: .ref msg :: .ref mln :: .ref mcl :: .ref mcs :: .ref mrd :: .int snx :: .int swr :: .int snu :: .int ste :: .int sma :: .int sde :: .int sli :: .ref mop :: .int sod :: .ref mst :: .int sto :: .ref mwd :: .ref msd :: .int sx_ :: .ref mws :: .int sun :: .ref mfr :: .ref mqu :: .ref miw :: .int sfi :: .int swa :: .long sdx :: .ref mim :: .ref mix :: .ref mmd :: []))), (msd, .inl ((cs 0), 133, .inl gsd))] H ∧ lv_has ls 7 [(6, .int v_2720), (5, .int v_2695), (4, .int v_67), (3, .int v_2734), (2, .int v_2735), (0, .ref m0), (1, .int a)]) 143 (fun x9 => match x9 with | (v_2734, v_2735) => []) ?_ (fun hj_2736 => ?_)
            · rintro ⟨v_2734, v_2735⟩ H locs ls ⟨hHe, hlc, hP, hl⟩
              refine lv_iload hx hb dX12_goes_143 (lv_at hl 1 rfl) ?_
              refine w_cut (σ := (Int32)) (fun (v_2742 : Int32) H locs ls => H = s.heap ∧ locs = [] ∧ va_P D vwCl [(m0, .inr (10, (.ref mtp :: .int sta :: .int sru :: .ref msg :: .ref mln :: .ref mcl :: .ref mcs :: .ref mrd :: .int snx :: .int swr :: .int snu :: .int ste :: .int sma :: .int sde :: .int sli :: .ref mop :: .int sod :: .ref mst :: .int sto :: .ref mwd :: .ref msd :: .int sx_ :: .ref mws :: .int sun :: .ref mfr :: .ref mqu :: .ref miw :: .int sfi :: .int swa :: .long sdx :: .ref mim :: .ref mix :: .ref mmd :: []))), (msd, .inl ((cs 0), 133, .inl gsd))] H ∧ lv_has ls 7 [(6, .int v_2720), (5, .int v_2695), (4, .int v_67), (3, .int v_2742), (2, .int v_2735), (0, .ref m0), (1, .int a)]) 151 (fun (v_2742 : Int32) => []) ?_ (fun hj_2743 => ?_)
              · rintro v_2742 H locs ls ⟨hHe, hlc, hP, hl⟩
                obtain ⟨x_2744, e_2745⟩ : ∃ z : Int32, z = v_67 + Int32.ofInt 1 := ⟨_, rfl⟩
                have r_2746 : Rg 1 9 x_2744 := Rg.add e_2745 r_2554 (Rg.c (c := Int32.ofInt 1) (k := 1) rfl) (by decide)
                refine lv_iinc (v := x_2744) (lv' := [(4, .int x_2744), (6, .int v_2720), (5, .int v_2695), (3, .int v_2742), (2, .int v_2735), (0, .ref m0), (1, .int a)]) hx hb dX12_goes_151 hl (k := 2) rfl (e_2745.symm) (by decide) rfl (fun ls hl => ?_)
                refine lv_goto (tgt := 28) hx hb dX12_goes_154 (by decide) ?_
                exact ih_2546 (x_2744, v_2742, v_2735) _ _ _ ⟨(Rg.wk (lo2 := 0) (hi2 := 9) r_2746 (by decide)), hHe, hlc, hP, lv_sub hl [0, 3, 4, 5, 6] rfl⟩ (ms_up e_2745 r_2554 (Rg.c (c := Int32.ofInt 1) (k := 1) rfl) (by decide))
              · refine lv_if_eq (tgt := 151) hx hb dX12_goes_145 (by decide) (fun c_2737 => ?_) (fun c_2737 => ?_)
                · have r_2738 : Rg 0 0 v_2695 := Rg.eq_l c_2737 r_2697 (Rg.c (c := 0) (k := 0) rfl) (by decide)
                  exact hj_2743 v_2734 _ _ _ ⟨hHe, hlc, hP, lv_sub hl [0, 1, 2, 3, 4, 5, 6] rfl⟩
                · have r_2739 : Rg 1 1 v_2695 := Rg.ne c_2737 r_2697 (Rg.c (c := 0) (k := 0) rfl) (by decide)
                  obtain ⟨x_2747, e_2748⟩ : ∃ z : Int32, z = v_2734 + Int32.ofInt 1 := ⟨_, rfl⟩
                  refine lv_iinc (v := x_2747) (lv' := [(3, .int x_2747), (6, .int v_2720), (5, .int v_2695), (4, .int v_67), (2, .int v_2735), (0, .ref m0), (1, .int a)]) hx hb dX12_goes_148 hl (k := 3) rfl (e_2748.symm) (by decide) rfl (fun ls hl => ?_)
                  exact hj_2743 x_2747 _ _ _ ⟨hHe, hlc, hP, lv_sub hl [1, 2, 3, 0, 4, 5, 6] rfl⟩
            · refine lv_if_ne (tgt := 143) hx hb dX12_goes_128 (by decide) (fun c_2723 => ?_) (fun c_2723 => ?_)
              · have r_2724 : Rg 1 1 v_2720 := Rg.ne c_2723 r_2722 (Rg.c (c := 0) (k := 0) rfl) (by decide)
                exact hj_2736 (v_68, v_69) _ _ _ ⟨hHe, hlc, hP, lv_sub hl [0, 1, 2, 3, 4, 5, 6] rfl⟩
              · have r_2725 : Rg 0 0 v_2720 := Rg.eq_l c_2723 r_2722 (Rg.c (c := 0) (k := 0) rfl) (by decide)
                refine lv_iload_n hx hb dX12_goes_131 rfl (lv_at hl 4 rfl) ?_
                refine lv_iload_n hx hb dX12_goes_132 rfl (lv_at hl 3 rfl) ?_
                refine lv_iload_n hx hb dX12_goes_133 rfl (lv_at hl 6 rfl) ?_
                refine lv_iadd hx hb dX12_goes_134 ?_
                refine lv_topi (fun x_2749 e_2750 => ?_)
                refine lv_iconst (v := 1) hx hb dX12_goes_135 (by decide) ?_
                refine lv_isub hx hb dX12_goes_136 ?_
                refine lv_topi (fun x_2751 e_2752 => ?_)
                refine lv_iload_n hx hb dX12_goes_137 rfl (lv_at hl 6 rfl) ?_
                refine lv_idiv hx hb dX12_goes_138 (Rg.nz r_14 (by decide)) ?_
                refine lv_topi (fun x_2753 e_2754 => ?_)
                refine lv_iadd hx hb dX12_goes_139 ?_
                refine lv_topi (fun x_2755 e_2756 => ?_)
                refine lv_istore_n (lv' := [(2, .int x_2755), (6, .int v_2720), (5, .int v_2695), (4, .int v_67), (3, .int v_68), (0, .ref m0), (1, .int a)]) hx hb dX12_goes_140 rfl hl (by decide) rfl (fun ls hl => ?_)
                refine lv_iconst (v := 0) hx hb dX12_goes_141 (by decide) ?_
                refine lv_istore_n (lv' := [(3, .int 0), (2, .int x_2755), (6, .int v_2720), (5, .int v_2695), (4, .int v_67), (0, .ref m0), (1, .int a)]) hx hb dX12_goes_142 rfl hl (by decide) rfl (fun ls hl => ?_)
                exact hj_2736 (0, x_2755) _ _ _ ⟨hHe, hlc, hP, lv_sub hl [2, 3, 4, 0, 1, 5, 6] rfl⟩
          · refine lv_if_eq (tgt := 123) hx hb dX12_goes_85 (by decide) (fun c_2698 => ?_) (fun c_2698 => ?_)
            · have r_2699 : Rg 0 0 v_2695 := Rg.eq_l c_2698 r_2697 (Rg.c (c := 0) (k := 0) rfl) (by decide)
              refine lv_iconst (v := 0) hx hb dX12_goes_123 (by decide) ?_
              exact hj_2721 0 _ _ _ ⟨(Rg.wk (lo2 := 0) (hi2 := 1) (Rg.c (c := 0) (k := 0) rfl) (by decide)), hHe, hlc, hP, lv_sub hl [0, 1, 2, 3, 4, 5] rfl⟩
            · have r_2700 : Rg 1 1 v_2695 := Rg.ne c_2698 r_2697 (Rg.c (c := 0) (k := 0) rfl) (by decide)
              refine lv_iload_n hx hb dX12_goes_88 rfl (lv_at hl 2 rfl) ?_
              refine lv_if_le (tgt := 123) hx hb dX12_goes_89 (by decide) (fun c_2757 => ?_) (fun c_2757 => ?_)
              · have r_2758 : Rg (-2147483648) 0 v_68 := Rg.le_l c_2757 (Rg.top v_68) (Rg.c (c := 0) (k := 0) rfl) (by decide)
                refine lv_iconst (v := 0) hx hb dX12_goes_123 (by decide) ?_
                exact hj_2721 0 _ _ _ ⟨(Rg.wk (lo2 := 0) (hi2 := 1) (Rg.c (c := 0) (k := 0) rfl) (by decide)), hHe, hlc, hP, lv_sub hl [0, 1, 2, 3, 4, 5] rfl⟩
              · have r_2759 : Rg 1 2147483647 v_68 := Rg.lt_r (nle_lt c_2757) (Rg.c (c := 0) (k := 0) rfl) (Rg.top v_68) (by decide)
                refine lv_aload_n hx hb dX12_goes_92 rfl (lv_at hl 4 rfl) ?_
                refine va_get (D := D) (ci := 10) (v := .ref msd) (C := "WrongHoleModel") (T := TX12) (N := 33) hx hb hts (iq_RX12 _) hown hK hP 0 rfl rfl 20 (by decide) (hT _ qq_5_172) (fun _ h9 => h9) rfl dX12_goes_93 ?_
                refine lv_bipush (v := 10) hx hb dX12_goes_96 (by decide) ?_
                refine lv_iload hx hb dX12_goes_98 (lv_at hl 1 rfl) ?_
                refine lv_iadd hx hb dX12_goes_100 ?_
                refine lv_topi (fun x_2760 e_2761 => ?_)
                have r_2762 : Rg 10 18 x_2760 := Rg.add e_2761 (Rg.c (c := 10) (k := 10) rfl) r_2554 (by decide)
                have hi_2763 : vp_in x_2760 133 := Rg.in r_2762 (by decide)
                refine va_iald hx hb hK hP 1 0 rfl rfl hi_2763 dX12_goes_101 ?_
                refine lv_topi (fun x_2764 e_2765 => ?_)
                refine lv_aload_n hx hb dX12_goes_102 rfl (lv_at hl 4 rfl) ?_
                refine va_get (D := D) (ci := 10) (v := .ref msd) (C := "WrongHoleModel") (T := TX12) (N := 33) hx hb hts (iq_RX12 _) hown hK hP 0 rfl rfl 20 (by decide) (hT _ qq_5_172) (fun _ h9 => h9) rfl dX12_goes_103 ?_
                refine lv_bipush (v := 10) hx hb dX12_goes_106 (by decide) ?_
                refine lv_iload hx hb dX12_goes_108 (lv_at hl 1 rfl) ?_
                refine lv_iadd hx hb dX12_goes_110 ?_
                refine lv_topi (fun x_2766 e_2767 => ?_)
                have r_2768 : Rg 10 18 x_2766 := Rg.add e_2767 (Rg.c (c := 10) (k := 10) rfl) r_2554 (by decide)
                refine lv_iconst (v := 1) hx hb dX12_goes_111 (by decide) ?_
                refine lv_isub hx hb dX12_goes_112 ?_
                refine lv_topi (fun x_2769 e_2770 => ?_)
                have r_2771 : Rg 9 17 x_2769 := Rg.sub e_2770 r_2768 (Rg.c (c := 1) (k := 1) rfl) (by decide)
                have hi_2772 : vp_in x_2769 133 := Rg.in r_2771 (by decide)
                refine va_iald hx hb hK hP 1 0 rfl rfl hi_2772 dX12_goes_113 ?_
                refine lv_topi (fun x_2773 e_2774 => ?_)
                refine lv_iconst (v := 1) hx hb dX12_goes_114 (by decide) ?_
                refine lv_iadd hx hb dX12_goes_115 ?_
                refine lv_topi (fun x_2775 e_2776 => ?_)
                refine lv_icmp_ne (tgt := 123) hx hb dX12_goes_116 (by decide) (fun c_2777 => ?_) (fun c_2777 => ?_)
                · refine lv_iconst (v := 0) hx hb dX12_goes_123 (by decide) ?_
                  exact hj_2721 0 _ _ _ ⟨(Rg.wk (lo2 := 0) (hi2 := 1) (Rg.c (c := 0) (k := 0) rfl) (by decide)), hHe, hlc, hP, lv_sub hl [0, 1, 2, 3, 4, 5] rfl⟩
                · refine lv_iconst (v := 1) hx hb dX12_goes_119 (by decide) ?_
                  refine lv_goto (tgt := 124) hx hb dX12_goes_120 (by decide) ?_
                  exact hj_2721 1 _ _ _ ⟨(Rg.wk (lo2 := 0) (hi2 := 1) (Rg.c (c := 1) (k := 1) rfl) (by decide)), hHe, hlc, hP, lv_sub hl [0, 1, 2, 3, 4, 5] rfl⟩
        · refine lv_if_eq (tgt := 80) hx hb dX12_goes_45 (by decide) (fun c_2674 => ?_) (fun c_2674 => ?_)
          · have r_2675 : Rg 0 0 x_2671 := Rg.eq_l c_2674 r_2673.1 (Rg.c (c := 0) (k := 0) rfl) (by decide)
            refine lv_iconst (v := 0) hx hb dX12_goes_80 (by decide) ?_
            exact hj_2696 0 _ _ _ ⟨(Rg.wk (lo2 := 0) (hi2 := 1) (Rg.c (c := 0) (k := 0) rfl) (by decide)), hHe, hlc, hP, lv_sub hl [0, 1, 2, 3, 4] rfl⟩
          · have r_2676 : Rg 1 1 x_2671 := Rg.ne c_2674 r_2673.1 (Rg.c (c := 0) (k := 0) rfl) (by decide)
            have r_2677 : Rg 0 7 v_67 := hb_r (r_2673.2.1 c_2674) (hsi).a0 (by decide)
            refine lv_aload_n hx hb dX12_goes_48 rfl (lv_at hl 3 rfl) ?_
            refine va_get (D := D) (ci := 10) (v := .ref msd) (C := "WrongHoleModel") (T := TX12) (N := 33) hx hb hts (iq_RX12 _) hown hK hP 0 rfl rfl 20 (by decide) (hT _ qq_5_172) (fun _ h9 => h9) rfl dX12_goes_49 ?_
            refine lv_bipush (v := 10) hx hb dX12_goes_52 (by decide) ?_
            refine lv_iload hx hb dX12_goes_54 (lv_at hl 0 rfl) ?_
            refine lv_iadd hx hb dX12_goes_56 ?_
            refine lv_topi (fun x_2778 e_2779 => ?_)
            have r_2780 : Rg 10 17 x_2778 := Rg.add e_2779 (Rg.c (c := 10) (k := 10) rfl) r_2677 (by decide)
            have hi_2781 : vp_in x_2778 133 := Rg.in r_2780 (by decide)
            refine va_iald hx hb hK hP 1 0 rfl rfl hi_2781 dX12_goes_57 ?_
            refine lv_topi (fun x_2782 e_2783 => ?_)
            have r_2784 : Rg (-1) 7 x_2782 := Rg.of e_2783 (hsi.li r_2780 (by decide))
            refine lv_if_lt (tgt := 80) hx hb dX12_goes_58 (by decide) (fun c_2785 => ?_) (fun c_2785 => ?_)
            · have r_2786 : Rg (-1) (-1) x_2782 := Rg.lt_l c_2785 r_2784 (Rg.c (c := 0) (k := 0) rfl) (by decide)
              refine lv_iconst (v := 0) hx hb dX12_goes_80 (by decide) ?_
              exact hj_2696 0 _ _ _ ⟨(Rg.wk (lo2 := 0) (hi2 := 1) (Rg.c (c := 0) (k := 0) rfl) (by decide)), hHe, hlc, hP, lv_sub hl [0, 1, 2, 3, 4] rfl⟩
            · have r_2787 : Rg 0 7 x_2782 := Rg.le_r (nlt_le c_2785) (Rg.c (c := 0) (k := 0) rfl) r_2784 (by decide)
              refine lv_aload_n hx hb dX12_goes_61 rfl (lv_at hl 3 rfl) ?_
              refine va_get (D := D) (ci := 10) (v := .ref msd) (C := "WrongHoleModel") (T := TX12) (N := 33) hx hb hts (iq_RX12 _) hown hK hP 0 rfl rfl 20 (by decide) (hT _ qq_5_172) (fun _ h9 => h9) rfl dX12_goes_62 ?_
              refine lv_bipush (v := 10) hx hb dX12_goes_65 (by decide) ?_
              refine lv_iload hx hb dX12_goes_67 (lv_at hl 0 rfl) ?_
              refine lv_iadd hx hb dX12_goes_69 ?_
              refine lv_topi (fun x_2788 e_2789 => ?_)
              have r_2790 : Rg 10 17 x_2788 := Rg.add e_2789 (Rg.c (c := 10) (k := 10) rfl) r_2677 (by decide)
              have hi_2791 : vp_in x_2788 133 := Rg.in r_2790 (by decide)
              refine va_iald hx hb hK hP 1 0 rfl rfl hi_2791 dX12_goes_70 ?_
              refine lv_topi (fun x_2792 e_2793 => ?_)
              have r_2794 : Rg (-1) 7 x_2792 := Rg.of e_2793 (hsi.li r_2790 (by decide))
              refine lv_iload hx hb dX12_goes_71 (lv_at hl 0 rfl) ?_
              refine lv_icmp_eq (tgt := 80) hx hb dX12_goes_73 (by decide) (fun c_2795 => ?_) (fun c_2795 => ?_)
              · have r_2796 : Rg 0 7 x_2792 := Rg.eq_l c_2795 r_2794 r_2677 (by decide)
                refine lv_iconst (v := 0) hx hb dX12_goes_80 (by decide) ?_
                exact hj_2696 0 _ _ _ ⟨(Rg.wk (lo2 := 0) (hi2 := 1) (Rg.c (c := 0) (k := 0) rfl) (by decide)), hHe, hlc, hP, lv_sub hl [0, 1, 2, 3, 4] rfl⟩
              · refine lv_iconst (v := 1) hx hb dX12_goes_76 (by decide) ?_
                refine lv_goto (tgt := 81) hx hb dX12_goes_77 (by decide) ?_
                exact hj_2696 1 _ _ _ ⟨(Rg.wk (lo2 := 0) (hi2 := 1) (Rg.c (c := 1) (k := 1) rfl) (by decide)), hHe, hlc, hP, lv_sub hl [0, 1, 2, 3, 4] rfl⟩
    · have r_15 : Rg 0 0 x_9 := Rg.eq_l c_12 r_11.1 (Rg.c (c := 0) (k := 0) rfl) (by decide)
      refine lv_iconst (v := (-1)) hx hb dX12_goes_19 (by decide) ?_
      exact W.iret (v := (-1)) hx hb hr (fun t9 ht9 hW9 => ⟨⟨_, rfl, _, rfl⟩, ht9.trans hHe⟩) (fun _ h9 => by rw [hlc] at h9; exact absurd h9 List.not_mem_nil) dX12_goes_20
theorem dX12_spare_0 : decode cX12_spare 0 = .ok (.aload_n 0, 1) := by decide +kernel
theorem dX12_spare_1 : decode cX12_spare 1 = .ok (.iload_n 1, 1) := by decide +kernel
theorem dX12_spare_2 : decode cX12_spare 2 = .ok (.invokevirtual 365, 3) := by decide +kernel
theorem dX12_spare_5 : decode cX12_spare 5 = .ok (.ifCond .eq 22, 3) := by decide +kernel
theorem dX12_spare_27 : decode cX12_spare 27 = .ok (.iconst (-1), 1) := by decide +kernel
theorem dX12_spare_28 : decode cX12_spare 28 = .ok (.ireturn, 1) := by decide +kernel
theorem dX12_spare_8 : decode cX12_spare 8 = .ok (.aload_n 0, 1) := by decide +kernel
theorem dX12_spare_9 : decode cX12_spare 9 = .ok (.iload_n 1, 1) := by decide +kernel
theorem dX12_spare_10 : decode cX12_spare 10 = .ok (.iconst 1, 1) := by decide +kernel
theorem dX12_spare_11 : decode cX12_spare 11 = .ok (.invokevirtual 319, 3) := by decide +kernel
theorem dX12_spare_14 : decode cX12_spare 14 = .ok (.ifCond .eq 13, 3) := by decide +kernel
theorem dX12_spare_17 : decode cX12_spare 17 = .ok (.iload_n 2, 1) := by decide +kernel
theorem dX12_spare_18 : decode cX12_spare 18 = .ok (.i2l, 1) := by decide +kernel
theorem dX12_spare_19 : decode cX12_spare 19 = .ok (.lconst 0, 1) := by decide +kernel
theorem dX12_spare_20 : decode cX12_spare 20 = .ok (.lconst 1, 1) := by decide +kernel
theorem dX12_spare_21 : decode cX12_spare 21 = .ok (.invokestatic 104, 3) := by decide +kernel
theorem dX12_spare_24 : decode cX12_spare 24 = .ok (.ifCond .ne 5, 3) := by decide +kernel
theorem dX12_spare_29 : decode cX12_spare 29 = .ok (.bipush (-2), 2) := by decide +kernel
theorem dX12_spare_31 : decode cX12_spare 31 = .ok (.istore_n 3, 1) := by decide +kernel
theorem dX12_spare_32 : decode cX12_spare 32 = .ok (.iconst 0, 1) := by decide +kernel
theorem dX12_spare_33 : decode cX12_spare 33 = .ok (.istore 4, 2) := by decide +kernel
theorem dX12_spare_35 : decode cX12_spare 35 = .ok (.iload 4, 2) := by decide +kernel
theorem dX12_spare_37 : decode cX12_spare 37 = .ok (.aload_n 0, 1) := by decide +kernel
theorem dX12_spare_38 : decode cX12_spare 38 = .ok (.getfield 39, 3) := by decide +kernel
theorem dX12_spare_41 : decode cX12_spare 41 = .ok (.iconst 0, 1) := by decide +kernel
theorem dX12_spare_42 : decode cX12_spare 42 = .ok (.iaload, 1) := by decide +kernel
theorem dX12_spare_43 : decode cX12_spare 43 = .ok (.if_icmp .ge 78, 3) := by decide +kernel
theorem dX12_spare_121 : decode cX12_spare 121 = .ok (.iload_n 3, 1) := by decide +kernel
theorem dX12_spare_122 : decode cX12_spare 122 = .ok (.ifCond .lt 7, 3) := by decide +kernel
theorem dX12_spare_129 : decode cX12_spare 129 = .ok (.iload_n 3, 1) := by decide +kernel
theorem dX12_spare_130 : decode cX12_spare 130 = .ok (.goto 16, 3) := by decide +kernel
theorem dX12_spare_146 : decode cX12_spare 146 = .ok (.ireturn, 1) := by decide +kernel
theorem dX12_spare_125 : decode cX12_spare 125 = .ok (.iload_n 2, 1) := by decide +kernel
theorem dX12_spare_126 : decode cX12_spare 126 = .ok (.ifCond .ne 7, 3) := by decide +kernel
theorem dX12_spare_133 : decode cX12_spare 133 = .ok (.aload_n 0, 1) := by decide +kernel
theorem dX12_spare_134 : decode cX12_spare 134 = .ok (.iload_n 1, 1) := by decide +kernel
theorem dX12_spare_135 : decode cX12_spare 135 = .ok (.iconst 4, 1) := by decide +kernel
theorem dX12_spare_136 : decode cX12_spare 136 = .ok (.invokevirtual 319, 3) := by decide +kernel
theorem dX12_spare_139 : decode cX12_spare 139 = .ok (.aload_n 0, 1) := by decide +kernel
theorem dX12_spare_140 : decode cX12_spare 140 = .ok (.iload_n 3, 1) := by decide +kernel
theorem dX12_spare_141 : decode cX12_spare 141 = .ok (.iconst 4, 1) := by decide +kernel
theorem dX12_spare_142 : decode cX12_spare 142 = .ok (.invokevirtual 319, 3) := by decide +kernel
theorem dX12_spare_145 : decode cX12_spare 145 = .ok (.isub, 1) := by decide +kernel
theorem dX12_spare_46 : decode cX12_spare 46 = .ok (.aload_n 0, 1) := by decide +kernel
theorem dX12_spare_47 : decode cX12_spare 47 = .ok (.iload 4, 2) := by decide +kernel
theorem dX12_spare_49 : decode cX12_spare 49 = .ok (.iconst 1, 1) := by decide +kernel
theorem dX12_spare_50 : decode cX12_spare 50 = .ok (.invokevirtual 319, 3) := by decide +kernel
theorem dX12_spare_53 : decode cX12_spare 53 = .ok (.iconst 1, 1) := by decide +kernel
theorem dX12_spare_54 : decode cX12_spare 54 = .ok (.if_icmp .eq 61, 3) := by decide +kernel
theorem dX12_spare_115 : decode cX12_spare 115 = .ok (.iinc 4 1, 3) := by decide +kernel
theorem dX12_spare_118 : decode cX12_spare 118 = .ok (.goto (-83), 3) := by decide +kernel
theorem dX12_spare_57 : decode cX12_spare 57 = .ok (.aload_n 0, 1) := by decide +kernel
theorem dX12_spare_58 : decode cX12_spare 58 = .ok (.iload 4, 2) := by decide +kernel
theorem dX12_spare_60 : decode cX12_spare 60 = .ok (.iconst 0, 1) := by decide +kernel
theorem dX12_spare_61 : decode cX12_spare 61 = .ok (.invokevirtual 319, 3) := by decide +kernel
theorem dX12_spare_64 : decode cX12_spare 64 = .ok (.aload_n 0, 1) := by decide +kernel
theorem dX12_spare_65 : decode cX12_spare 65 = .ok (.iload_n 1, 1) := by decide +kernel
theorem dX12_spare_66 : decode cX12_spare 66 = .ok (.iconst 0, 1) := by decide +kernel
theorem dX12_spare_67 : decode cX12_spare 67 = .ok (.invokevirtual 319, 3) := by decide +kernel
theorem dX12_spare_70 : decode cX12_spare 70 = .ok (.if_icmp .ne 45, 3) := by decide +kernel
theorem dX12_spare_73 : decode cX12_spare 73 = .ok (.aload_n 0, 1) := by decide +kernel
theorem dX12_spare_74 : decode cX12_spare 74 = .ok (.iload 4, 2) := by decide +kernel
theorem dX12_spare_76 : decode cX12_spare 76 = .ok (.iconst 4, 1) := by decide +kernel
theorem dX12_spare_77 : decode cX12_spare 77 = .ok (.invokevirtual 319, 3) := by decide +kernel
theorem dX12_spare_80 : decode cX12_spare 80 = .ok (.aload_n 0, 1) := by decide +kernel
theorem dX12_spare_81 : decode cX12_spare 81 = .ok (.iload_n 1, 1) := by decide +kernel
theorem dX12_spare_82 : decode cX12_spare 82 = .ok (.iconst 4, 1) := by decide +kernel
theorem dX12_spare_83 : decode cX12_spare 83 = .ok (.invokevirtual 319, 3) := by decide +kernel
theorem dX12_spare_86 : decode cX12_spare 86 = .ok (.if_icmp .lt 6, 3) := by decide +kernel
theorem dX12_spare_92 : decode cX12_spare 92 = .ok (.iload_n 3, 1) := by decide +kernel
theorem dX12_spare_93 : decode cX12_spare 93 = .ok (.ifCond .lt 19, 3) := by decide +kernel
theorem dX12_spare_112 : decode cX12_spare 112 = .ok (.iload 4, 2) := by decide +kernel
theorem dX12_spare_114 : decode cX12_spare 114 = .ok (.istore_n 3, 1) := by decide +kernel
theorem dX12_spare_96 : decode cX12_spare 96 = .ok (.aload_n 0, 1) := by decide +kernel
theorem dX12_spare_97 : decode cX12_spare 97 = .ok (.iload 4, 2) := by decide +kernel
theorem dX12_spare_99 : decode cX12_spare 99 = .ok (.iconst 4, 1) := by decide +kernel
theorem dX12_spare_100 : decode cX12_spare 100 = .ok (.invokevirtual 319, 3) := by decide +kernel
theorem dX12_spare_103 : decode cX12_spare 103 = .ok (.aload_n 0, 1) := by decide +kernel
theorem dX12_spare_104 : decode cX12_spare 104 = .ok (.iload_n 3, 1) := by decide +kernel
theorem dX12_spare_105 : decode cX12_spare 105 = .ok (.iconst 4, 1) := by decide +kernel
theorem dX12_spare_106 : decode cX12_spare 106 = .ok (.invokevirtual 319, 3) := by decide +kernel
theorem dX12_spare_109 : decode cX12_spare 109 = .ok (.if_icmp .gt 6, 3) := by decide +kernel
theorem dX12_spare_89 : decode cX12_spare 89 = .ok (.goto 26, 3) := by decide +kernel
set_option maxHeartbeats 4000000 in
set_option maxRecDepth 100000 in
theorem c_M_spare (l : Launch) (D : va_G) (cs : Nat → ClassId) (m0 : Nat) (mtp : Nat) (sta : Int32) (sru : Int32) (msg : Nat) (mln : Nat) (mcl : Nat) (mcs : Nat) (mrd : Nat) (snx : Int32) (swr : Int32) (snu : Int32) (ste : Int32) (sma : Int32) (sde : Int32) (sli : Int32) (mop : Nat) (sod : Int32) (mst : Nat) (sto : Int32) (mwd : Nat) (msd : Nat) (sx_ : Int32) (mws : Nat) (sun : Int32) (mfr : Nat) (mqu : Nat) (miw : Nat) (sfi : Int32) (swa : Int32) (sdx : Int64) (mim : Nat) (mix : Nat) (mmd : Nat) (gsd : Nat → Int32) (b : Int32) (a : Int32) (hsi : SI gsd) : Met l yX12_spare (Cond.code yX12_spare cX12_spare 5 (some .int) :: TB) (RM 1 0 0) (va_Pc [.ref m0, .int b, .int a] (PRR D cs [(m0, .inr (10, (.ref mtp :: .int sta :: .int sru :: .ref msg :: .ref mln :: .ref mcl :: .ref mcs :: .ref mrd :: .int snx :: .int swr :: .int snu :: .int ste :: .int sma :: .int sde :: .int sli :: .ref mop :: .int sod :: .ref mst :: .int sto :: .ref mwd :: .ref msd :: .int sx_ :: .ref mws :: .int sun :: .ref mfr :: .ref mqu :: .ref miw :: .int sfi :: .int swa :: .long sdx :: .ref mim :: .ref mix :: .ref mmd :: []))), (msd, .inl ((cs 0), 133, .inl gsd))])) (QP (fun v => ∃ x : Int32, v = .int x)) 0 0 (fun _ => False) := by
  refine MER (y := yX12_spare) (cc := cX12_spare) (maxL := 5) (ret := (some .int)) (d := 1) (D := D) (cs := cs) (ws := [(m0, .inr (10, (.ref mtp :: .int sta :: .int sru :: .ref msg :: .ref mln :: .ref mcl :: .ref mcs :: .ref mrd :: .int snx :: .int swr :: .int snu :: .int ste :: .int sma :: .int sde :: .int sli :: .ref mop :: .int sod :: .ref mst :: .int sto :: .ref mwd :: .ref msd :: .int sx_ :: .ref mws :: .int sun :: .ref mfr :: .ref mqu :: .ref miw :: .int sfi :: .int swa :: .long sdx :: .ref mim :: .ref mix :: .ref mmd :: []))), (msd, .inl ((cs 0), 133, .inl gsd))]) (av := [.ref m0, .int b, .int a]) (Qc := QP (fun v => ∃ x : Int32, v = .int x)) (by decide) (Nat.le_of_ble_eq_true rfl) ?_
  intro p e s m below meth c ls H hHe hx hb hr hml hown hts hlocks hP hK hN hl
  obtain ⟨locs, hlc⟩ : ∃ z : List Loc, z = [] := ⟨_, rfl⟩
  rw [← hlc]
  have hown : s.vm.findClass "WrongHoleModel" = some m.cls := hown
  have hT : ∀ w ∈ TB, w.before ([.ref m0, .int b, .int a] : List Value).toArray s = true := fun w h => hts w (List.mem_cons_of_mem _ h)
  have hl : lv_has ls 5 [(0, .ref m0), (1, .int b), (2, .int a)] := hl
  have hP : va_P D vwCl [(m0, .inr (10, (.ref mtp :: .int sta :: .int sru :: .ref msg :: .ref mln :: .ref mcl :: .ref mcs :: .ref mrd :: .int snx :: .int swr :: .int snu :: .int ste :: .int sma :: .int sde :: .int sli :: .ref mop :: .int sod :: .ref mst :: .int sto :: .ref mwd :: .ref msd :: .int sx_ :: .ref mws :: .int sun :: .ref mfr :: .ref mqu :: .ref miw :: .int sfi :: .int swa :: .long sdx :: .ref mim :: .ref mix :: .ref mmd :: []))), (msd, .inl ((cs 0), 133, .inl gsd))] H := hP
  refine lv_aload_n hx hb dX12_spare_0 rfl (lv_at hl 0 rfl) ?_
  refine lv_iload_n hx hb dX12_spare_1 rfl (lv_at hl 1 rfl) ?_
  have hPc := va_P.sub (ws' := [(m0, .inr (10, (.ref mtp :: .int sta :: .int sru :: .ref msg :: .ref mln :: .ref mcl :: .ref mcs :: .ref mrd :: .int snx :: .int swr :: .int snu :: .int ste :: .int sma :: .int sde :: .int sli :: .ref mop :: .int sod :: .ref mst :: .int sto :: .ref mwd :: .ref msd :: .int sx_ :: .ref mws :: .int sun :: .ref mfr :: .ref mqu :: .ref miw :: .int sfi :: .int swa :: .long sdx :: .ref mim :: .ref mix :: .ref mmd :: []))), (msd, .inl ((cs 0), 133, .inl gsd))]) hP [0, 1] rfl
  refine cl_P (W.runV (As := [.int b]) (rest := []) ⟨hx, hb, hml, hown, hts⟩ (c_M_isButton l D cs m0 mtp sta sru msg mln mcl mcs mrd snx swr snu ste sma sde sli mop sod mst sto mwd msd sx_ mws sun mfr mqu miw sfi swa sdx mim mix mmd gsd b hsi) ⟨callB_of 1 hts (gd_C qq_7_4) rfl rfl rfl (hT _ qq_1_9) (hT _ qq_7_1) (by decide +kernel) (rm_R rfl rfl), (hT _ qq_7_3), (hT _ qs_4_10)⟩ (pq_V hPc hK hN (ci := 10) (q0 := 0) rfl rfl) rfl rfl hl.1 rfl (lv_room (Nat.le_of_ble_eq_true rfl)) dX12_spare_2 ⟨Nat.le_of_ble_eq_true rfl, Nat.le_of_ble_eq_true rfl⟩) (fun v9 hz_2 => ?_)
  obtain ⟨x_1, rfl, r_3⟩ := hz_2
  refine lv_if_eq (tgt := 27) hx hb dX12_spare_5 (by decide) (fun c_4 => ?_) (fun c_4 => ?_)
  · have r_5 : Rg 0 0 x_1 := Rg.eq_l c_4 r_3.1 (Rg.c (c := 0) (k := 0) rfl) (by decide)
    refine lv_iconst (v := (-1)) hx hb dX12_spare_27 (by decide) ?_
    exact W.iret (v := (-1)) hx hb hr (fun t9 ht9 hW9 => ⟨⟨_, rfl, _, rfl⟩, ht9.trans hHe⟩) (fun _ h9 => by rw [hlc] at h9; exact absurd h9 List.not_mem_nil) dX12_spare_28
  · have r_6 : Rg 1 1 x_1 := Rg.ne c_4 r_3.1 (Rg.c (c := 0) (k := 0) rfl) (by decide)
    have r_7 : Rg 0 7 b := hb_r (r_3.2.1 c_4) (hsi).a0 (by decide)
    refine lv_aload_n hx hb dX12_spare_8 rfl (lv_at hl 0 rfl) ?_
    refine lv_iload_n hx hb dX12_spare_9 rfl (lv_at hl 1 rfl) ?_
    refine lv_iconst (v := 1) hx hb dX12_spare_10 (by decide) ?_
    have hPc := va_P.sub (ws' := [(m0, .inr (10, (.ref mtp :: .int sta :: .int sru :: .ref msg :: .ref mln :: .ref mcl :: .ref mcs :: .ref mrd :: .int snx :: .int swr :: .int snu :: .int ste :: .int sma :: .int sde :: .int sli :: .ref mop :: .int sod :: .ref mst :: .int sto :: .ref mwd :: .ref msd :: .int sx_ :: .ref mws :: .int sun :: .ref mfr :: .ref mqu :: .ref miw :: .int sfi :: .int swa :: .long sdx :: .ref mim :: .ref mix :: .ref mmd :: []))), (msd, .inl ((cs 0), 133, .inl gsd))]) hP [0, 1] rfl
    refine cl_V (W.runV (As := [.int b, .int 1]) (rest := []) ⟨hx, hb, hml, hown, hts⟩ (c_M_buttonOf_1 l D cs m0 mtp sta sru msg mln mcl mcs mrd snx swr snu ste sma sde sli mop sod mst sto mwd msd sx_ mws sun mfr mqu miw sfi swa sdx mim mix mmd gsd b hsi r_7) ⟨callB_of 2 hts (gd_C qq_7_9) rfl rfl rfl (hT _ qq_1_9) (hT _ qq_7_6) (by decide +kernel) (rm_R rfl rfl), (hT _ qq_7_8), (hT _ qs_4_11)⟩ (pq_V hPc hK hN (ci := 10) (q0 := 0) rfl rfl) rfl rfl hl.1 rfl (lv_room (Nat.le_of_ble_eq_true rfl)) dX12_spare_11 ⟨Nat.le_of_ble_eq_true rfl, Nat.le_of_ble_eq_true rfl⟩) ?_
    refine lv_topi (fun x_8 e_9 => ?_)
    refine lv_if_eq (tgt := 27) hx hb dX12_spare_14 (by decide) (fun c_10 => ?_) (fun c_10 => ?_)
    · have r_11 : Rg 0 0 x_8 := Rg.eq_l c_10 (Rg.top x_8) (Rg.c (c := 0) (k := 0) rfl) (by decide)
      refine lv_iconst (v := (-1)) hx hb dX12_spare_27 (by decide) ?_
      exact W.iret (v := (-1)) hx hb hr (fun t9 ht9 hW9 => ⟨⟨_, rfl, _, rfl⟩, ht9.trans hHe⟩) (fun _ h9 => by rw [hlc] at h9; exact absurd h9 List.not_mem_nil) dX12_spare_28
    · refine lv_iload_n hx hb dX12_spare_17 rfl (lv_at hl 2 rfl) ?_
      refine lv_i2l (v := Int32.toInt64 a) hx hb dX12_spare_18 rfl ?_
      refine lv_topl (fun x_12 e_13 => ?_)
      refine lv_lconst (v := 0) hx hb dX12_spare_19 (by decide) ?_
      refine lv_lconst (v := 1) hx hb dX12_spare_20 (by decide) ?_
      have hPc := va_P.sub (ws' := []) hP [] rfl
      refine cl_P (W.runS (As := [.long x_12, .long 0, .long 1]) (rest := []) ⟨hx, hb, hml, hown, hts⟩ (c_M_in l D cs x_12 0 1) ⟨callB_of 3 hts (gd_C qq_6_97) rfl rfl rfl (hT _ qq_1_9) (hT _ qq_6_95) (by decide +kernel) (rm_R rfl rfl), (hT _ qq_6_96)⟩ (pq_S hPc hK hN) rfl rfl hl.1 rfl (lv_room (Nat.le_of_ble_eq_true rfl)) dX12_spare_21 ⟨Nat.le_of_ble_eq_true rfl, Nat.le_of_ble_eq_true rfl⟩) (fun v9 hz_15 => ?_)
      obtain ⟨x_14, rfl, r_16⟩ := hz_15
      refine lv_if_ne (tgt := 29) hx hb dX12_spare_24 (by decide) (fun c_17 => ?_) (fun c_17 => ?_)
      · have r_18 : Rg 1 1 x_14 := Rg.ne c_17 r_16.1 (Rg.c (c := 0) (k := 0) rfl) (by decide)
        have r_19 : Rg 0 1 a := in_rg e_13 (r_16.2 c_17) (by decide) (by decide)
        refine lv_bipush (v := (-2)) hx hb dX12_spare_29 (by decide) ?_
        refine lv_istore_n (lv' := [(3, .int (-2)), (0, .ref m0), (1, .int b), (2, .int a)]) hx hb dX12_spare_31 rfl hl (by decide) rfl (fun ls hl => ?_)
        refine lv_iconst (v := 0) hx hb dX12_spare_32 (by decide) ?_
        refine lv_istore (lv' := [(4, .int 0), (3, .int (-2)), (0, .ref m0), (1, .int b), (2, .int a)]) hx hb dX12_spare_33 hl (by decide) rfl (fun ls hl => ?_)
        refine w_wh (σ := (Int32) × (Int32)) (fun x9 H locs ls => match x9 with | (v_90, v_91) => Rg 0 8 v_90 ∧ Rg (-2) 7 v_91 ∧ H = s.heap ∧ locs = [] ∧ va_P D vwCl [(m0, .inr (10, (.ref mtp :: .int sta :: .int sru :: .ref msg :: .ref mln :: .ref mcl :: .ref mcs :: .ref mrd :: .int snx :: .int swr :: .int snu :: .int ste :: .int sma :: .int sde :: .int sli :: .ref mop :: .int sod :: .ref mst :: .int sto :: .ref mwd :: .ref msd :: .int sx_ :: .ref mws :: .int sun :: .ref mfr :: .ref mqu :: .ref miw :: .int sfi :: .int swa :: .long sdx :: .ref mim :: .ref mix :: .ref mmd :: []))), (msd, .inl ((cs 0), 133, .inl gsd))] H ∧ lv_has ls 5 [(4, .int v_90), (3, .int v_91), (0, .ref m0), (1, .int b), (2, .int a)]) (fun x9 => match x9 with | (v_90, v_91) => (8 - Int32.toInt v_90).toNat) 35 ?_ (0, (-2)) H locs ls ⟨(Rg.wk (lo2 := 0) (hi2 := 8) (Rg.c (c := 0) (k := 0) rfl) (by decide)), (Rg.wk (lo2 := (-2)) (hi2 := 7) (Rg.c (c := (-2)) (k := (-2)) rfl) (by decide)), hHe, hlc, hP, lv_sub hl [0, 1, 2, 3, 4] rfl⟩
        rintro ⟨v_90, v_91⟩ H locs ls ⟨r_1600, r_1601, hHe, hlc, hP, hl⟩ ih_1599
        refine lv_iload hx hb dX12_spare_35 (lv_at hl 0 rfl) ?_
        refine lv_aload_n hx hb dX12_spare_37 rfl (lv_at hl 2 rfl) ?_
        refine va_get (D := D) (ci := 10) (v := .ref msd) (C := "WrongHoleModel") (T := TX12) (N := 33) hx hb hts (iq_RX12 _) hown hK hP 0 rfl rfl 20 (by decide) (hT _ qq_5_172) (fun _ h9 => h9) rfl dX12_spare_38 ?_
        refine lv_iconst (v := 0) hx hb dX12_spare_41 (by decide) ?_
        have hi_1602 : vp_in 0 133 := vi_c rfl
        refine va_iald hx hb hK hP 1 0 rfl rfl hi_1602 dX12_spare_42 ?_
        refine lv_topi (fun x_1603 e_1604 => ?_)
        have r_1605 : Rg 0 8 x_1603 := Rg.of e_1604 (hsi.a0)
        refine lv_icmp_ge (tgt := 121) hx hb dX12_spare_43 (by decide) (fun c_1606 => ?_) (fun c_1606 => ?_)
        · refine lv_iload_n hx hb dX12_spare_121 rfl (lv_at hl 1 rfl) ?_
          refine lv_if_lt (tgt := 129) hx hb dX12_spare_122 (by decide) (fun c_1661 => ?_) (fun c_1661 => ?_)
          · have r_1662 : Rg (-2) (-1) v_91 := Rg.lt_l c_1661 r_1601 (Rg.c (c := 0) (k := 0) rfl) (by decide)
            refine lv_iload_n hx hb dX12_spare_129 rfl (lv_at hl 1 rfl) ?_
            refine lv_goto (tgt := 146) hx hb dX12_spare_130 (by decide) ?_
            exact W.iret (v := v_91) hx hb hr (fun t9 ht9 hW9 => ⟨⟨_, rfl, _, rfl⟩, ht9.trans hHe⟩) (fun _ h9 => by rw [hlc] at h9; exact absurd h9 List.not_mem_nil) dX12_spare_146
          · have r_1663 : Rg 0 7 v_91 := Rg.le_r (nlt_le c_1661) (Rg.c (c := 0) (k := 0) rfl) r_1601 (by decide)
            refine lv_iload_n hx hb dX12_spare_125 rfl (lv_at hl 4 rfl) ?_
            refine lv_if_ne (tgt := 133) hx hb dX12_spare_126 (by decide) (fun c_1673 => ?_) (fun c_1673 => ?_)
            · have r_1674 : Rg 1 1 a := Rg.ne c_1673 r_19 (Rg.c (c := 0) (k := 0) rfl) (by decide)
              refine lv_aload_n hx hb dX12_spare_133 rfl (lv_at hl 2 rfl) ?_
              refine lv_iload_n hx hb dX12_spare_134 rfl (lv_at hl 3 rfl) ?_
              refine lv_iconst (v := 4) hx hb dX12_spare_135 (by decide) ?_
              have hPc := va_P.sub (ws' := [(m0, .inr (10, (.ref mtp :: .int sta :: .int sru :: .ref msg :: .ref mln :: .ref mcl :: .ref mcs :: .ref mrd :: .int snx :: .int swr :: .int snu :: .int ste :: .int sma :: .int sde :: .int sli :: .ref mop :: .int sod :: .ref mst :: .int sto :: .ref mwd :: .ref msd :: .int sx_ :: .ref mws :: .int sun :: .ref mfr :: .ref mqu :: .ref miw :: .int sfi :: .int swa :: .long sdx :: .ref mim :: .ref mix :: .ref mmd :: []))), (msd, .inl ((cs 0), 133, .inl gsd))]) hP [0, 1] rfl
              refine cl_V (W.runV (As := [.int b, .int 4]) (rest := []) ⟨hx, hb, hml, hown, hts⟩ (c_M_buttonOf_4 l D cs m0 mtp sta sru msg mln mcl mcs mrd snx swr snu ste sma sde sli mop sod mst sto mwd msd sx_ mws sun mfr mqu miw sfi swa sdx mim mix mmd gsd b hsi r_7) ⟨callB_of 2 hts (gd_C qq_7_9) rfl rfl rfl (hT _ qq_1_9) (hT _ qq_7_6) (by decide +kernel) (rm_R rfl rfl), (hT _ qq_7_8), (hT _ qs_4_11)⟩ (pq_V hPc hK hN (ci := 10) (q0 := 0) rfl rfl) rfl rfl hl.1 rfl (lv_room (Nat.le_of_ble_eq_true rfl)) dX12_spare_136 ⟨Nat.le_of_ble_eq_true rfl, Nat.le_of_ble_eq_true rfl⟩) ?_
              refine lv_topi (fun x_1682 e_1683 => ?_)
              refine lv_aload_n hx hb dX12_spare_139 rfl (lv_at hl 2 rfl) ?_
              refine lv_iload_n hx hb dX12_spare_140 rfl (lv_at hl 1 rfl) ?_
              refine lv_iconst (v := 4) hx hb dX12_spare_141 (by decide) ?_
              have hPc := va_P.sub (ws' := [(m0, .inr (10, (.ref mtp :: .int sta :: .int sru :: .ref msg :: .ref mln :: .ref mcl :: .ref mcs :: .ref mrd :: .int snx :: .int swr :: .int snu :: .int ste :: .int sma :: .int sde :: .int sli :: .ref mop :: .int sod :: .ref mst :: .int sto :: .ref mwd :: .ref msd :: .int sx_ :: .ref mws :: .int sun :: .ref mfr :: .ref mqu :: .ref miw :: .int sfi :: .int swa :: .long sdx :: .ref mim :: .ref mix :: .ref mmd :: []))), (msd, .inl ((cs 0), 133, .inl gsd))]) hP [0, 1] rfl
              refine cl_V (W.runV (As := [.int v_91, .int 4]) (rest := [.int x_1682]) ⟨hx, hb, hml, hown, hts⟩ (c_M_buttonOf_4 l D cs m0 mtp sta sru msg mln mcl mcs mrd snx swr snu ste sma sde sli mop sod mst sto mwd msd sx_ mws sun mfr mqu miw sfi swa sdx mim mix mmd gsd v_91 hsi r_1663) ⟨callB_of 2 hts (gd_C qq_7_9) rfl rfl rfl (hT _ qq_1_9) (hT _ qq_7_6) (by decide +kernel) (rm_R rfl rfl), (hT _ qq_7_8), (hT _ qs_4_11)⟩ (pq_V hPc hK hN (ci := 10) (q0 := 0) rfl rfl) rfl rfl hl.1 rfl (lv_room (Nat.le_of_ble_eq_true rfl)) dX12_spare_142 ⟨Nat.le_of_ble_eq_true rfl, Nat.le_of_ble_eq_true rfl⟩) ?_
              refine lv_topi (fun x_1684 e_1685 => ?_)
              refine lv_isub hx hb dX12_spare_145 ?_
              refine lv_topi (fun x_1686 e_1687 => ?_)
              exact W.iret (v := x_1686) hx hb hr (fun t9 ht9 hW9 => ⟨⟨_, rfl, _, rfl⟩, ht9.trans hHe⟩) (fun _ h9 => by rw [hlc] at h9; exact absurd h9 List.not_mem_nil) dX12_spare_146
            · have r_1675 : Rg 0 0 a := Rg.eq_l c_1673 r_19 (Rg.c (c := 0) (k := 0) rfl) (by decide)
              refine lv_iload_n hx hb dX12_spare_129 rfl (lv_at hl 1 rfl) ?_
              refine lv_goto (tgt := 146) hx hb dX12_spare_130 (by decide) ?_
              exact W.iret (v := v_91) hx hb hr (fun t9 ht9 hW9 => ⟨⟨_, rfl, _, rfl⟩, ht9.trans hHe⟩) (fun _ h9 => by rw [hlc] at h9; exact absurd h9 List.not_mem_nil) dX12_spare_146
        · have r_1607 : Rg 0 7 v_90 := Rg.lt_l (nle_lt c_1606) r_1600 r_1605 (by decide)
          have r_1608 : Rg 1 8 x_1603 := Rg.lt_r (nle_lt c_1606) r_1600 r_1605 (by decide)
          refine lv_aload_n hx hb dX12_spare_46 rfl (lv_at hl 2 rfl) ?_
          refine lv_iload hx hb dX12_spare_47 (lv_at hl 0 rfl) ?_
          refine lv_iconst (v := 1) hx hb dX12_spare_49 (by decide) ?_
          have hPc := va_P.sub (ws' := [(m0, .inr (10, (.ref mtp :: .int sta :: .int sru :: .ref msg :: .ref mln :: .ref mcl :: .ref mcs :: .ref mrd :: .int snx :: .int swr :: .int snu :: .int ste :: .int sma :: .int sde :: .int sli :: .ref mop :: .int sod :: .ref mst :: .int sto :: .ref mwd :: .ref msd :: .int sx_ :: .ref mws :: .int sun :: .ref mfr :: .ref mqu :: .ref miw :: .int sfi :: .int swa :: .long sdx :: .ref mim :: .ref mix :: .ref mmd :: []))), (msd, .inl ((cs 0), 133, .inl gsd))]) hP [0, 1] rfl
          refine cl_V (W.runV (As := [.int v_90, .int 1]) (rest := []) ⟨hx, hb, hml, hown, hts⟩ (c_M_buttonOf_1 l D cs m0 mtp sta sru msg mln mcl mcs mrd snx swr snu ste sma sde sli mop sod mst sto mwd msd sx_ mws sun mfr mqu miw sfi swa sdx mim mix mmd gsd v_90 hsi r_1607) ⟨callB_of 2 hts (gd_C qq_7_9) rfl rfl rfl (hT _ qq_1_9) (hT _ qq_7_6) (by decide +kernel) (rm_R rfl rfl), (hT _ qq_7_8), (hT _ qs_4_11)⟩ (pq_V hPc hK hN (ci := 10) (q0 := 0) rfl rfl) rfl rfl hl.1 rfl (lv_room (Nat.le_of_ble_eq_true rfl)) dX12_spare_50 ⟨Nat.le_of_ble_eq_true rfl, Nat.le_of_ble_eq_true rfl⟩) ?_
          refine lv_topi (fun x_1688 e_1689 => ?_)
          refine lv_iconst (v := 1) hx hb dX12_spare_53 (by decide) ?_
          refine w_cut (σ := (Int32)) (fun (v_1714 : Int32) H locs ls => Rg (-2) 7 v_1714 ∧ H = s.heap ∧ locs = [] ∧ va_P D vwCl [(m0, .inr (10, (.ref mtp :: .int sta :: .int sru :: .ref msg :: .ref mln :: .ref mcl :: .ref mcs :: .ref mrd :: .int snx :: .int swr :: .int snu :: .int ste :: .int sma :: .int sde :: .int sli :: .ref mop :: .int sod :: .ref mst :: .int sto :: .ref mwd :: .ref msd :: .int sx_ :: .ref mws :: .int sun :: .ref mfr :: .ref mqu :: .ref miw :: .int sfi :: .int swa :: .long sdx :: .ref mim :: .ref mix :: .ref mmd :: []))), (msd, .inl ((cs 0), 133, .inl gsd))] H ∧ lv_has ls 5 [(4, .int v_90), (3, .int v_1714), (0, .ref m0), (1, .int b), (2, .int a)]) 115 (fun (v_1714 : Int32) => []) ?_ (fun hj_1715 => ?_)
          · rintro v_1714 H locs ls ⟨r_1716, hHe, hlc, hP, hl⟩
            obtain ⟨x_1717, e_1718⟩ : ∃ z : Int32, z = v_90 + Int32.ofInt 1 := ⟨_, rfl⟩
            have r_1719 : Rg 1 8 x_1717 := Rg.add e_1718 r_1607 (Rg.c (c := Int32.ofInt 1) (k := 1) rfl) (by decide)
            refine lv_iinc (v := x_1717) (lv' := [(4, .int x_1717), (3, .int v_1714), (0, .ref m0), (1, .int b), (2, .int a)]) hx hb dX12_spare_115 hl (k := 0) rfl (e_1718.symm) (by decide) rfl (fun ls hl => ?_)
            refine lv_goto (tgt := 35) hx hb dX12_spare_118 (by decide) ?_
            exact ih_1599 (x_1717, v_1714) _ _ _ ⟨(Rg.wk (lo2 := 0) (hi2 := 8) r_1719 (by decide)), r_1716, hHe, hlc, hP, lv_sub hl [0, 1, 2, 3, 4] rfl⟩ (ms_up e_1718 r_1607 (Rg.c (c := Int32.ofInt 1) (k := 1) rfl) (by decide))
          · refine lv_icmp_eq (tgt := 115) hx hb dX12_spare_54 (by decide) (fun c_1690 => ?_) (fun c_1690 => ?_)
            · have r_1691 : Rg 1 1 x_1688 := Rg.eq_l c_1690 (Rg.top x_1688) (Rg.c (c := 1) (k := 1) rfl) (by decide)
              exact hj_1715 v_91 _ _ _ ⟨r_1601, hHe, hlc, hP, lv_sub hl [0, 1, 2, 3, 4] rfl⟩
            · refine lv_aload_n hx hb dX12_spare_57 rfl (lv_at hl 2 rfl) ?_
              refine lv_iload hx hb dX12_spare_58 (lv_at hl 0 rfl) ?_
              refine lv_iconst (v := 0) hx hb dX12_spare_60 (by decide) ?_
              have hPc := va_P.sub (ws' := [(m0, .inr (10, (.ref mtp :: .int sta :: .int sru :: .ref msg :: .ref mln :: .ref mcl :: .ref mcs :: .ref mrd :: .int snx :: .int swr :: .int snu :: .int ste :: .int sma :: .int sde :: .int sli :: .ref mop :: .int sod :: .ref mst :: .int sto :: .ref mwd :: .ref msd :: .int sx_ :: .ref mws :: .int sun :: .ref mfr :: .ref mqu :: .ref miw :: .int sfi :: .int swa :: .long sdx :: .ref mim :: .ref mix :: .ref mmd :: []))), (msd, .inl ((cs 0), 133, .inl gsd))]) hP [0, 1] rfl
              refine cl_V (W.runV (As := [.int v_90, .int 0]) (rest := []) ⟨hx, hb, hml, hown, hts⟩ (c_M_buttonOf_0 l D cs m0 mtp sta sru msg mln mcl mcs mrd snx swr snu ste sma sde sli mop sod mst sto mwd msd sx_ mws sun mfr mqu miw sfi swa sdx mim mix mmd gsd v_90 hsi r_1607) ⟨callB_of 2 hts (gd_C qq_7_9) rfl rfl rfl (hT _ qq_1_9) (hT _ qq_7_6) (by decide +kernel) (rm_R rfl rfl), (hT _ qq_7_8), (hT _ qs_4_11)⟩ (pq_V hPc hK hN (ci := 10) (q0 := 0) rfl rfl) rfl rfl hl.1 rfl (lv_room (Nat.le_of_ble_eq_true rfl)) dX12_spare_61 ⟨Nat.le_of_ble_eq_true rfl, Nat.le_of_ble_eq_true rfl⟩) ?_
              refine lv_topi (fun x_1720 e_1721 => ?_)
              refine lv_aload_n hx hb dX12_spare_64 rfl (lv_at hl 2 rfl) ?_
              refine lv_iload_n hx hb dX12_spare_65 rfl (lv_at hl 3 rfl) ?_
              refine lv_iconst (v := 0) hx hb dX12_spare_66 (by decide) ?_
              have hPc := va_P.sub (ws' := [(m0, .inr (10, (.ref mtp :: .int sta :: .int sru :: .ref msg :: .ref mln :: .ref mcl :: .ref mcs :: .ref mrd :: .int snx :: .int swr :: .int snu :: .int ste :: .int sma :: .int sde :: .int sli :: .ref mop :: .int sod :: .ref mst :: .int sto :: .ref mwd :: .ref msd :: .int sx_ :: .ref mws :: .int sun :: .ref mfr :: .ref mqu :: .ref miw :: .int sfi :: .int swa :: .long sdx :: .ref mim :: .ref mix :: .ref mmd :: []))), (msd, .inl ((cs 0), 133, .inl gsd))]) hP [0, 1] rfl
              refine cl_V (W.runV (As := [.int b, .int 0]) (rest := [.int x_1720]) ⟨hx, hb, hml, hown, hts⟩ (c_M_buttonOf_0 l D cs m0 mtp sta sru msg mln mcl mcs mrd snx swr snu ste sma sde sli mop sod mst sto mwd msd sx_ mws sun mfr mqu miw sfi swa sdx mim mix mmd gsd b hsi r_7) ⟨callB_of 2 hts (gd_C qq_7_9) rfl rfl rfl (hT _ qq_1_9) (hT _ qq_7_6) (by decide +kernel) (rm_R rfl rfl), (hT _ qq_7_8), (hT _ qs_4_11)⟩ (pq_V hPc hK hN (ci := 10) (q0 := 0) rfl rfl) rfl rfl hl.1 rfl (lv_room (Nat.le_of_ble_eq_true rfl)) dX12_spare_67 ⟨Nat.le_of_ble_eq_true rfl, Nat.le_of_ble_eq_true rfl⟩) ?_
              refine lv_topi (fun x_1722 e_1723 => ?_)
              refine lv_icmp_ne (tgt := 115) hx hb dX12_spare_70 (by decide) (fun c_1724 => ?_) (fun c_1724 => ?_)
              · exact hj_1715 v_91 _ _ _ ⟨r_1601, hHe, hlc, hP, lv_sub hl [0, 1, 2, 3, 4] rfl⟩
              · refine lv_aload_n hx hb dX12_spare_73 rfl (lv_at hl 2 rfl) ?_
                refine lv_iload hx hb dX12_spare_74 (lv_at hl 0 rfl) ?_
                refine lv_iconst (v := 4) hx hb dX12_spare_76 (by decide) ?_
                have hPc := va_P.sub (ws' := [(m0, .inr (10, (.ref mtp :: .int sta :: .int sru :: .ref msg :: .ref mln :: .ref mcl :: .ref mcs :: .ref mrd :: .int snx :: .int swr :: .int snu :: .int ste :: .int sma :: .int sde :: .int sli :: .ref mop :: .int sod :: .ref mst :: .int sto :: .ref mwd :: .ref msd :: .int sx_ :: .ref mws :: .int sun :: .ref mfr :: .ref mqu :: .ref miw :: .int sfi :: .int swa :: .long sdx :: .ref mim :: .ref mix :: .ref mmd :: []))), (msd, .inl ((cs 0), 133, .inl gsd))]) hP [0, 1] rfl
                refine cl_V (W.runV (As := [.int v_90, .int 4]) (rest := []) ⟨hx, hb, hml, hown, hts⟩ (c_M_buttonOf_4 l D cs m0 mtp sta sru msg mln mcl mcs mrd snx swr snu ste sma sde sli mop sod mst sto mwd msd sx_ mws sun mfr mqu miw sfi swa sdx mim mix mmd gsd v_90 hsi r_1607) ⟨callB_of 2 hts (gd_C qq_7_9) rfl rfl rfl (hT _ qq_1_9) (hT _ qq_7_6) (by decide +kernel) (rm_R rfl rfl), (hT _ qq_7_8), (hT _ qs_4_11)⟩ (pq_V hPc hK hN (ci := 10) (q0 := 0) rfl rfl) rfl rfl hl.1 rfl (lv_room (Nat.le_of_ble_eq_true rfl)) dX12_spare_77 ⟨Nat.le_of_ble_eq_true rfl, Nat.le_of_ble_eq_true rfl⟩) ?_
                refine lv_topi (fun x_1725 e_1726 => ?_)
                refine lv_aload_n hx hb dX12_spare_80 rfl (lv_at hl 2 rfl) ?_
                refine lv_iload_n hx hb dX12_spare_81 rfl (lv_at hl 3 rfl) ?_
                refine lv_iconst (v := 4) hx hb dX12_spare_82 (by decide) ?_
                have hPc := va_P.sub (ws' := [(m0, .inr (10, (.ref mtp :: .int sta :: .int sru :: .ref msg :: .ref mln :: .ref mcl :: .ref mcs :: .ref mrd :: .int snx :: .int swr :: .int snu :: .int ste :: .int sma :: .int sde :: .int sli :: .ref mop :: .int sod :: .ref mst :: .int sto :: .ref mwd :: .ref msd :: .int sx_ :: .ref mws :: .int sun :: .ref mfr :: .ref mqu :: .ref miw :: .int sfi :: .int swa :: .long sdx :: .ref mim :: .ref mix :: .ref mmd :: []))), (msd, .inl ((cs 0), 133, .inl gsd))]) hP [0, 1] rfl
                refine cl_V (W.runV (As := [.int b, .int 4]) (rest := [.int x_1725]) ⟨hx, hb, hml, hown, hts⟩ (c_M_buttonOf_4 l D cs m0 mtp sta sru msg mln mcl mcs mrd snx swr snu ste sma sde sli mop sod mst sto mwd msd sx_ mws sun mfr mqu miw sfi swa sdx mim mix mmd gsd b hsi r_7) ⟨callB_of 2 hts (gd_C qq_7_9) rfl rfl rfl (hT _ qq_1_9) (hT _ qq_7_6) (by decide +kernel) (rm_R rfl rfl), (hT _ qq_7_8), (hT _ qs_4_11)⟩ (pq_V hPc hK hN (ci := 10) (q0 := 0) rfl rfl) rfl rfl hl.1 rfl (lv_room (Nat.le_of_ble_eq_true rfl)) dX12_spare_83 ⟨Nat.le_of_ble_eq_true rfl, Nat.le_of_ble_eq_true rfl⟩) ?_
                refine lv_topi (fun x_1727 e_1728 => ?_)
                refine lv_icmp_lt (tgt := 92) hx hb dX12_spare_86 (by decide) (fun c_1729 => ?_) (fun c_1729 => ?_)
                · have r_1730 : Rg (-2147483648) 2147483646 x_1725 := Rg.lt_l c_1729 (Rg.top x_1725) (Rg.top x_1727) (by decide)
                  have r_1731 : Rg (-2147483647) 2147483647 x_1727 := Rg.lt_r c_1729 (Rg.top x_1725) (Rg.top x_1727) (by decide)
                  refine lv_iload_n hx hb dX12_spare_92 rfl (lv_at hl 1 rfl) ?_
                  refine lv_if_lt (tgt := 112) hx hb dX12_spare_93 (by decide) (fun c_1732 => ?_) (fun c_1732 => ?_)
                  · have r_1733 : Rg (-2) (-1) v_91 := Rg.lt_l c_1732 r_1601 (Rg.c (c := 0) (k := 0) rfl) (by decide)
                    refine lv_iload hx hb dX12_spare_112 (lv_at hl 0 rfl) ?_
                    refine lv_istore_n (lv' := [(3, .int v_90), (4, .int v_90), (0, .ref m0), (1, .int b), (2, .int a)]) hx hb dX12_spare_114 rfl hl (by decide) rfl (fun ls hl => ?_)
                    exact hj_1715 v_90 _ _ _ ⟨(Rg.wk (lo2 := (-2)) (hi2 := 7) r_1607 (by decide)), hHe, hlc, hP, lv_sub hl [1, 0, 2, 3, 4] rfl⟩
                  · have r_1734 : Rg 0 7 v_91 := Rg.le_r (nlt_le c_1732) (Rg.c (c := 0) (k := 0) rfl) r_1601 (by decide)
                    refine lv_aload_n hx hb dX12_spare_96 rfl (lv_at hl 2 rfl) ?_
                    refine lv_iload hx hb dX12_spare_97 (lv_at hl 0 rfl) ?_
                    refine lv_iconst (v := 4) hx hb dX12_spare_99 (by decide) ?_
                    have hPc := va_P.sub (ws' := [(m0, .inr (10, (.ref mtp :: .int sta :: .int sru :: .ref msg :: .ref mln :: .ref mcl :: .ref mcs :: .ref mrd :: .int snx :: .int swr :: .int snu :: .int ste :: .int sma :: .int sde :: .int sli :: .ref mop :: .int sod :: .ref mst :: .int sto :: .ref mwd :: .ref msd :: .int sx_ :: .ref mws :: .int sun :: .ref mfr :: .ref mqu :: .ref miw :: .int sfi :: .int swa :: .long sdx :: .ref mim :: .ref mix :: .ref mmd :: []))), (msd, .inl ((cs 0), 133, .inl gsd))]) hP [0, 1] rfl
                    refine cl_V (W.runV (As := [.int v_90, .int 4]) (rest := []) ⟨hx, hb, hml, hown, hts⟩ (c_M_buttonOf_4 l D cs m0 mtp sta sru msg mln mcl mcs mrd snx swr snu ste sma sde sli mop sod mst sto mwd msd sx_ mws sun mfr mqu miw sfi swa sdx mim mix mmd gsd v_90 hsi r_1607) ⟨callB_of 2 hts (gd_C qq_7_9) rfl rfl rfl (hT _ qq_1_9) (hT _ qq_7_6) (by decide +kernel) (rm_R rfl rfl), (hT _ qq_7_8), (hT _ qs_4_11)⟩ (pq_V hPc hK hN (ci := 10) (q0 := 0) rfl rfl) rfl rfl hl.1 rfl (lv_room (Nat.le_of_ble_eq_true rfl)) dX12_spare_100 ⟨Nat.le_of_ble_eq_true rfl, Nat.le_of_ble_eq_true rfl⟩) ?_
                    refine lv_topi (fun x_1735 e_1736 => ?_)
                    refine lv_aload_n hx hb dX12_spare_103 rfl (lv_at hl 2 rfl) ?_
                    refine lv_iload_n hx hb dX12_spare_104 rfl (lv_at hl 1 rfl) ?_
                    refine lv_iconst (v := 4) hx hb dX12_spare_105 (by decide) ?_
                    have hPc := va_P.sub (ws' := [(m0, .inr (10, (.ref mtp :: .int sta :: .int sru :: .ref msg :: .ref mln :: .ref mcl :: .ref mcs :: .ref mrd :: .int snx :: .int swr :: .int snu :: .int ste :: .int sma :: .int sde :: .int sli :: .ref mop :: .int sod :: .ref mst :: .int sto :: .ref mwd :: .ref msd :: .int sx_ :: .ref mws :: .int sun :: .ref mfr :: .ref mqu :: .ref miw :: .int sfi :: .int swa :: .long sdx :: .ref mim :: .ref mix :: .ref mmd :: []))), (msd, .inl ((cs 0), 133, .inl gsd))]) hP [0, 1] rfl
                    refine cl_V (W.runV (As := [.int v_91, .int 4]) (rest := [.int x_1735]) ⟨hx, hb, hml, hown, hts⟩ (c_M_buttonOf_4 l D cs m0 mtp sta sru msg mln mcl mcs mrd snx swr snu ste sma sde sli mop sod mst sto mwd msd sx_ mws sun mfr mqu miw sfi swa sdx mim mix mmd gsd v_91 hsi r_1734) ⟨callB_of 2 hts (gd_C qq_7_9) rfl rfl rfl (hT _ qq_1_9) (hT _ qq_7_6) (by decide +kernel) (rm_R rfl rfl), (hT _ qq_7_8), (hT _ qs_4_11)⟩ (pq_V hPc hK hN (ci := 10) (q0 := 0) rfl rfl) rfl rfl hl.1 rfl (lv_room (Nat.le_of_ble_eq_true rfl)) dX12_spare_106 ⟨Nat.le_of_ble_eq_true rfl, Nat.le_of_ble_eq_true rfl⟩) ?_
                    refine lv_topi (fun x_1737 e_1738 => ?_)
                    refine lv_icmp_gt (tgt := 115) hx hb dX12_spare_109 (by decide) (fun c_1739 => ?_) (fun c_1739 => ?_)
                    · have r_1740 : Rg (-2147483648) 2147483646 x_1737 := Rg.lt_l c_1739 (Rg.top x_1737) (Rg.top x_1735) (by decide)
                      have r_1741 : Rg (-2147483647) 2147483647 x_1735 := Rg.lt_r c_1739 (Rg.top x_1737) (Rg.top x_1735) (by decide)
                      exact hj_1715 v_91 _ _ _ ⟨(Rg.wk (lo2 := (-2)) (hi2 := 7) r_1734 (by decide)), hHe, hlc, hP, lv_sub hl [0, 1, 2, 3, 4] rfl⟩
                    · refine lv_iload hx hb dX12_spare_112 (lv_at hl 0 rfl) ?_
                      refine lv_istore_n (lv' := [(3, .int v_90), (4, .int v_90), (0, .ref m0), (1, .int b), (2, .int a)]) hx hb dX12_spare_114 rfl hl (by decide) rfl (fun ls hl => ?_)
                      exact hj_1715 v_90 _ _ _ ⟨(Rg.wk (lo2 := (-2)) (hi2 := 7) r_1607 (by decide)), hHe, hlc, hP, lv_sub hl [1, 0, 2, 3, 4] rfl⟩
                · refine lv_goto (tgt := 115) hx hb dX12_spare_89 (by decide) ?_
                  exact hj_1715 v_91 _ _ _ ⟨r_1601, hHe, hlc, hP, lv_sub hl [0, 1, 2, 3, 4] rfl⟩
      · have r_20 : Rg 0 0 x_14 := Rg.eq_l c_17 r_16.1 (Rg.c (c := 0) (k := 0) rfl) (by decide)
        refine lv_iconst (v := (-1)) hx hb dX12_spare_27 (by decide) ?_
        exact W.iret (v := (-1)) hx hb hr (fun t9 ht9 hW9 => ⟨⟨_, rfl, _, rfl⟩, ht9.trans hHe⟩) (fun _ h9 => by rw [hlc] at h9; exact absurd h9 List.not_mem_nil) dX12_spare_28
