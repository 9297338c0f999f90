theorem dX12_seat_0 : decode cX12_seat 0 = .ok (.iload_n 1, 1) := by decide +kernel
theorem dX12_seat_1 : decode cX12_seat 1 = .ok (.i2l, 1) := by decide +kernel
theorem dX12_seat_2 : decode cX12_seat 2 = .ok (.lconst 0, 1) := by decide +kernel
theorem dX12_seat_3 : decode cX12_seat 3 = .ok (.ldc2_w 495, 3) := by decide +kernel
theorem qq_8_36 : Cond.constantLong "WrongHoleModel" 495 9 ∈ TB := mk_tb (ti_8 (List.mem_of_getElem? (i := 36) rfl)) rfl
theorem dX12_seat_6 : decode cX12_seat 6 = .ok (.invokestatic 104, 3) := by decide +kernel
theorem dX12_seat_9 : decode cX12_seat 9 = .ok (.ifCond .eq 17, 3) := by decide +kernel
theorem dX12_seat_26 : decode cX12_seat 26 = .ok (.bipush (-2), 2) := by decide +kernel
theorem dX12_seat_28 : decode cX12_seat 28 = .ok (.ireturn, 1) := by decide +kernel
theorem dX12_seat_12 : decode cX12_seat 12 = .ok (.iload_n 2, 1) := by decide +kernel
theorem dX12_seat_13 : decode cX12_seat 13 = .ok (.i2l, 1) := by decide +kernel
theorem dX12_seat_14 : decode cX12_seat 14 = .ok (.ldc2_w 506, 3) := by decide +kernel
theorem qq_8_64 : Cond.constantLong "WrongHoleModel" 506 (-1) ∈ TB := mk_tb (ti_8 (List.mem_of_getElem? (i := 64) rfl)) rfl
theorem dX12_seat_17 : decode cX12_seat 17 = .ok (.ldc2_w 495, 3) := by decide +kernel
theorem dX12_seat_20 : decode cX12_seat 20 = .ok (.invokestatic 104, 3) := by decide +kernel
theorem dX12_seat_23 : decode cX12_seat 23 = .ok (.ifCond .ne 6, 3) := by decide +kernel
theorem dX12_seat_29 : decode cX12_seat 29 = .ok (.aload_n 0, 1) := by decide +kernel
theorem dX12_seat_30 : decode cX12_seat 30 = .ok (.getfield 39, 3) := by decide +kernel
theorem dX12_seat_33 : decode cX12_seat 33 = .ok (.bipush 92, 2) := by decide +kernel
theorem dX12_seat_35 : decode cX12_seat 35 = .ok (.iload_n 1, 1) := by decide +kernel
theorem dX12_seat_36 : decode cX12_seat 36 = .ok (.iadd, 1) := by decide +kernel
theorem dX12_seat_37 : decode cX12_seat 37 = .ok (.iaload, 1) := by decide +kernel
theorem dX12_seat_38 : decode cX12_seat 38 = .ok (.istore_n 3, 1) := by decide +kernel
theorem dX12_seat_39 : decode cX12_seat 39 = .ok (.iconst 0, 1) := by decide +kernel
theorem dX12_seat_40 : decode cX12_seat 40 = .ok (.istore 4, 2) := by decide +kernel
theorem dX12_seat_42 : decode cX12_seat 42 = .ok (.iload 4, 2) := by decide +kernel
theorem dX12_seat_44 : decode cX12_seat 44 = .ok (.bipush 10, 2) := by decide +kernel
theorem dX12_seat_46 : decode cX12_seat 46 = .ok (.if_icmp .ge 38, 3) := by decide +kernel
theorem dX12_seat_84 : decode cX12_seat 84 = .ok (.aload_n 0, 1) := by decide +kernel
theorem dX12_seat_85 : decode cX12_seat 85 = .ok (.getfield 39, 3) := by decide +kernel
theorem dX12_seat_88 : decode cX12_seat 88 = .ok (.bipush 92, 2) := by decide +kernel
theorem dX12_seat_90 : decode cX12_seat 90 = .ok (.iload_n 1, 1) := by decide +kernel
theorem dX12_seat_91 : decode cX12_seat 91 = .ok (.iadd, 1) := by decide +kernel
theorem dX12_seat_92 : decode cX12_seat 92 = .ok (.iload_n 2, 1) := by decide +kernel
theorem dX12_seat_93 : decode cX12_seat 93 = .ok (.iastore, 1) := by decide +kernel
theorem dX12_seat_94 : decode cX12_seat 94 = .ok (.iload_n 3, 1) := by decide +kernel
theorem dX12_seat_95 : decode cX12_seat 95 = .ok (.ireturn, 1) := by decide +kernel
theorem dX12_seat_49 : decode cX12_seat 49 = .ok (.iload_n 2, 1) := by decide +kernel
theorem dX12_seat_50 : decode cX12_seat 50 = .ok (.ifCond .lt 28, 3) := by decide +kernel
theorem dX12_seat_78 : decode cX12_seat 78 = .ok (.iinc 4 1, 3) := by decide +kernel
theorem dX12_seat_81 : decode cX12_seat 81 = .ok (.goto (-39), 3) := by decide +kernel
theorem dX12_seat_53 : decode cX12_seat 53 = .ok (.aload_n 0, 1) := by decide +kernel
theorem dX12_seat_54 : decode cX12_seat 54 = .ok (.getfield 39, 3) := by decide +kernel
theorem dX12_seat_57 : decode cX12_seat 57 = .ok (.bipush 92, 2) := by decide +kernel
theorem dX12_seat_59 : decode cX12_seat 59 = .ok (.iload 4, 2) := by decide +kernel
theorem dX12_seat_61 : decode cX12_seat 61 = .ok (.iadd, 1) := by decide +kernel
theorem dX12_seat_62 : decode cX12_seat 62 = .ok (.iaload, 1) := by decide +kernel
theorem dX12_seat_63 : decode cX12_seat 63 = .ok (.iload_n 2, 1) := by decide +kernel
theorem dX12_seat_64 : decode cX12_seat 64 = .ok (.if_icmp .ne 14, 3) := by decide +kernel
theorem dX12_seat_67 : decode cX12_seat 67 = .ok (.aload_n 0, 1) := by decide +kernel
theorem dX12_seat_68 : decode cX12_seat 68 = .ok (.getfield 39, 3) := by decide +kernel
theorem dX12_seat_71 : decode cX12_seat 71 = .ok (.bipush 92, 2) := by decide +kernel
theorem dX12_seat_73 : decode cX12_seat 73 = .ok (.iload 4, 2) := by decide +kernel
theorem dX12_seat_75 : decode cX12_seat 75 = .ok (.iadd, 1) := by decide +kernel
theorem dX12_seat_76 : decode cX12_seat 76 = .ok (.iconst (-1), 1) := by decide +kernel
theorem dX12_seat_77 : decode cX12_seat 77 = .ok (.iastore, 1) := by decide +kernel
set_option maxHeartbeats 4000000 in
set_option maxRecDepth 100000 in
theorem c_M_seat (l : Launch) (D : va_G) (cs : Nat → ClassId) (X : XX) (sz : Nat) (m0 : Nat) (mtp : Nat) (sta : Int32) (sru : Int32) (msg : Nat) (mln : Nat) (mcl : Nat) (mcs : Nat) (mrd : Nat) (snx : Int32) (swr : Int32) (snu : Int32) (ste : Int32) (sma : Int32) (sde : Int32) (sli : Int32) (mop : Nat) (sod : Int32) (mst : Nat) (sto : Int32) (mwd : Nat) (msd : Nat) (sx_ : Int32) (mws : Nat) (sun : Int32) (mfr : Nat) (mqu : Nat) (miw : Nat) (sfi : Int32) (swa : Int32) (sdx : Int64) (mim : Nat) (mix : Nat) (mmd : Nat) (gsd : Nat → Int32) (a : Int32) (b : Int32) (hsi : SI gsd) : Met l yX12_seat (Cond.code yX12_seat cX12_seat 5 (some .int) :: TB) (RM 1 0 0) (va_Pc [.ref m0, .int a, .int b] (PRE D cs X [(m0, .inr (10, (.ref mtp :: .int sta :: .int sru :: .ref msg :: .ref mln :: .ref mcl :: .ref mcs :: .ref mrd :: .int snx :: .int swr :: .int snu :: .int ste :: .int sma :: .int sde :: .int sli :: .ref mop :: .int sod :: .ref mst :: .int sto :: .ref mwd :: .ref msd :: .int sx_ :: .ref mws :: .int sun :: .ref mfr :: .ref mqu :: .ref miw :: .int sfi :: .int swa :: .long sdx :: .ref mim :: .ref mix :: .ref mmd :: []))), (msd, .inl ((cs 0), 133, .inl gsd))] [] sz)) (va_Qi (S := Unit) (fun r _ => True) (fun _ t => ∃ (gsd2 : Nat → Int32), (SI gsd2) ∧ (gsd2 0 = gsd 0) ∧ va_P D vwCl [(m0, .inr (10, (.ref mtp :: .int sta :: .int sru :: .ref msg :: .ref mln :: .ref mcl :: .ref mcs :: .ref mrd :: .int snx :: .int swr :: .int snu :: .int ste :: .int sma :: .int sde :: .int sli :: .ref mop :: .int sod :: .ref mst :: .int sto :: .ref mwd :: .ref msd :: .int sx_ :: .ref mws :: .int sun :: .ref mfr :: .ref mqu :: .ref miw :: .int sfi :: .int swa :: .long sdx :: .ref mim :: .ref mix :: .ref mmd :: []))), (msd, .inl ((cs 0), 133, .inl gsd2))] t.heap ∧ va_D (va_A [(m0, .inr (10, (.ref mtp :: .int sta :: .int sru :: .ref msg :: .ref mln :: .ref mcl :: .ref mcs :: .ref mrd :: .int snx :: .int swr :: .int snu :: .int ste :: .int sma :: .int sde :: .int sli :: .ref mop :: .int sod :: .ref mst :: .int sto :: .ref mwd :: .ref msd :: .int sx_ :: .ref mws :: .int sun :: .ref mfr :: .ref mqu :: .ref miw :: .int sfi :: .int swa :: .long sdx :: .ref mim :: .ref mix :: .ref mmd :: []))), (msd, .inl ((cs 0), 133, .inl gsd))] sz) [(m0, .inr (10, (.ref mtp :: .int sta :: .int sru :: .ref msg :: .ref mln :: .ref mcl :: .ref mcs :: .ref mrd :: .int snx :: .int swr :: .int snu :: .int ste :: .int sma :: .int sde :: .int sli :: .ref mop :: .int sod :: .ref mst :: .int sto :: .ref mwd :: .ref msd :: .int sx_ :: .ref mws :: .int sun :: .ref mfr :: .ref mqu :: .ref miw :: .int sfi :: .int swa :: .long sdx :: .ref mim :: .ref mix :: .ref mmd :: []))), (msd, .inl ((cs 0), 133, .inl gsd2))]) (va_A [(m0, .inr (10, (.ref mtp :: .int sta :: .int sru :: .ref msg :: .ref mln :: .ref mcl :: .ref mcs :: .ref mrd :: .int snx :: .int swr :: .int snu :: .int ste :: .int sma :: .int sde :: .int sli :: .ref mop :: .int sod :: .ref mst :: .int sto :: .ref mwd :: .ref msd :: .int sx_ :: .ref mws :: .int sun :: .ref mfr :: .ref mqu :: .ref miw :: .int sfi :: .int swa :: .long sdx :: .ref mim :: .ref mix :: .ref mmd :: []))), (msd, .inl ((cs 0), 133, .inl gsd))] sz)) 0 0 (va_A [(m0, .inr (10, (.ref mtp :: .int sta :: .int sru :: .ref msg :: .ref mln :: .ref mcl :: .ref mcs :: .ref mrd :: .int snx :: .int swr :: .int snu :: .int ste :: .int sma :: .int sde :: .int sli :: .ref mop :: .int sod :: .ref mst :: .int sto :: .ref mwd :: .ref msd :: .int sx_ :: .ref mws :: .int sun :: .ref mfr :: .ref mqu :: .ref miw :: .int sfi :: .int swa :: .long sdx :: .ref mim :: .ref mix :: .ref mmd :: []))), (msd, .inl ((cs 0), 133, .inl gsd))] sz) := by
  refine MET (y := yX12_seat) (cc := cX12_seat) (maxL := 5) (ret := (some .int)) (d := 1) (mc := 0) (ms := 0) (D := D) (cs := cs) (X := X) (ws := [(m0, .inr (10, (.ref mtp :: .int sta :: .int sru :: .ref msg :: .ref mln :: .ref mcl :: .ref mcs :: .ref mrd :: .int snx :: .int swr :: .int snu :: .int ste :: .int sma :: .int sde :: .int sli :: .ref mop :: .int sod :: .ref mst :: .int sto :: .ref mwd :: .ref msd :: .int sx_ :: .ref mws :: .int sun :: .ref mfr :: .ref mqu :: .ref miw :: .int sfi :: .int swa :: .long sdx :: .ref mim :: .ref mix :: .ref mmd :: []))), (msd, .inl ((cs 0), 133, .inl gsd))]) (wo := []) (sz := sz) (av := [.ref m0, .int a, .int b]) (Qc := fun A => va_Qi (S := Unit) (fun r _ => True) (fun _ t => ∃ (gsd2 : Nat → Int32), (SI gsd2) ∧ (gsd2 0 = gsd 0) ∧ va_P D vwCl [(m0, .inr (10, (.ref mtp :: .int sta :: .int sru :: .ref msg :: .ref mln :: .ref mcl :: .ref mcs :: .ref mrd :: .int snx :: .int swr :: .int snu :: .int ste :: .int sma :: .int sde :: .int sli :: .ref mop :: .int sod :: .ref mst :: .int sto :: .ref mwd :: .ref msd :: .int sx_ :: .ref mws :: .int sun :: .ref mfr :: .ref mqu :: .ref miw :: .int sfi :: .int swa :: .long sdx :: .ref mim :: .ref mix :: .ref mmd :: []))), (msd, .inl ((cs 0), 133, .inl gsd2))] t.heap ∧ va_D A [(m0, .inr (10, (.ref mtp :: .int sta :: .int sru :: .ref msg :: .ref mln :: .ref mcl :: .ref mcs :: .ref mrd :: .int snx :: .int swr :: .int snu :: .int ste :: .int sma :: .int sde :: .int sli :: .ref mop :: .int sod :: .ref mst :: .int sto :: .ref mwd :: .ref msd :: .int sx_ :: .ref mws :: .int sun :: .ref mfr :: .ref mqu :: .ref miw :: .int sfi :: .int swa :: .long sdx :: .ref mim :: .ref mix :: .ref mmd :: []))), (msd, .inl ((cs 0), 133, .inl gsd2))]) A) (by decide) (Nat.le_of_ble_eq_true rfl) ?_
  intro p e s m below meth c ls A H hHe hx hb hr hml hown hts hlocks hnm hP hK hD hA hS hN hR hX hXs hl
  have hD : va_D A [(m0, .inr (10, (.ref mtp :: .int sta :: .int sru :: .ref msg :: .ref mln :: .ref mcl :: .ref mcs :: .ref mrd :: .int snx :: .int swr :: .int snu :: .int ste :: .int sma :: .int sde :: .int sli :: .ref mop :: .int sod :: .ref mst :: .int sto :: .ref mwd :: .ref msd :: .int sx_ :: .ref mws :: .int sun :: .ref mfr :: .ref mqu :: .ref miw :: .int sfi :: .int swa :: .long sdx :: .ref mim :: .ref mix :: .ref mmd :: []))), (msd, .inl ((cs 0), 133, .inl gsd))] := hD
  obtain ⟨locs, hlc⟩ : ∃ z : List Loc, z = [] := ⟨_, rfl⟩
  rw [← hlc] at hS ⊢
  have hown : s.vm.findClass "WrongHoleModel" = some m.cls := hown
  have hT : ∀ w ∈ TB, w.before ([.ref m0, .int a, .int b] : List Value).toArray s = true := fun w h => hts w (List.mem_cons_of_mem _ h)
  have hl : lv_has ls 5 [(0, .ref m0), (1, .int a), (2, .int b)] := hl
  have hP : va_P D vwCl [(m0, .inr (10, (.ref mtp :: .int sta :: .int sru :: .ref msg :: .ref mln :: .ref mcl :: .ref mcs :: .ref mrd :: .int snx :: .int swr :: .int snu :: .int ste :: .int sma :: .int sde :: .int sli :: .ref mop :: .int sod :: .ref mst :: .int sto :: .ref mwd :: .ref msd :: .int sx_ :: .ref mws :: .int sun :: .ref mfr :: .ref mqu :: .ref miw :: .int sfi :: .int swa :: .long sdx :: .ref mim :: .ref mix :: .ref mmd :: []))), (msd, .inl ((cs 0), 133, .inl gsd))] H := hP
  refine lv_iload_n hx hb dX12_seat_0 rfl (lv_at hl 1 rfl) ?_
  refine lv_i2l (v := Int32.toInt64 a) hx hb dX12_seat_1 rfl ?_
  refine lv_topl (fun x_1 e_2 => ?_)
  refine lv_lconst (v := 0) hx hb dX12_seat_2 (by decide) ?_
  refine lv_ldc2 (v := 9) hx hb hown (hT _ qq_8_36) dX12_seat_3 ?_
  have hPc := va_P.sub (ws' := []) hP [] rfl
  refine cl_P (W.runS (As := [.long x_1, .long 0, .long 9]) (rest := []) ⟨hx, hb, hml, hown, hts⟩ (c_M_in l D cs x_1 0 9) ⟨callB_of 3 hts (gd_C qq_6_97) rfl rfl rfl (hT _ qq_1_9) (hT _ qq_6_95) (by decide +kernel) (rm_R rfl rfl), (hT _ qq_6_96)⟩ (pq_S hPc hK hN) rfl rfl hl.1 rfl (lv_room (Nat.le_of_ble_eq_true rfl)) dX12_seat_6 ⟨Nat.le_of_ble_eq_true rfl, Nat.le_of_ble_eq_true rfl⟩) (fun v9 hz_4 => ?_)
  obtain ⟨x_3, rfl, r_5⟩ := hz_4
  refine lv_if_eq (tgt := 26) hx hb dX12_seat_9 (by decide) (fun c_6 => ?_) (fun c_6 => ?_)
  · have r_7 : Rg 0 0 x_3 := Rg.eq_l c_6 r_5.1 (Rg.c (c := 0) (k := 0) rfl) (by decide)
    refine lv_bipush (v := (-2)) hx hb dX12_seat_26 (by decide) ?_
    refine W.widen (k := 0) (n := 0) (Nat.le_of_ble_eq_true rfl) (Nat.le_of_ble_eq_true rfl) ?_
    have hP9 := hP.sub (ws' := [(m0, .inr (10, (.ref mtp :: .int sta :: .int sru :: .ref msg :: .ref mln :: .ref mcl :: .ref mcs :: .ref mrd :: .int snx :: .int swr :: .int snu :: .int ste :: .int sma :: .int sde :: .int sli :: .ref mop :: .int sod :: .ref mst :: .int sto :: .ref mwd :: .ref msd :: .int sx_ :: .ref mws :: .int sun :: .ref mfr :: .ref mqu :: .ref miw :: .int sfi :: .int swa :: .long sdx :: .ref mim :: .ref mix :: .ref mmd :: []))), (msd, .inl ((cs 0), 133, .inl gsd))]) [0, 1] rfl
    have hD9 := hD.sub (ws' := [(m0, .inr (10, (.ref mtp :: .int sta :: .int sru :: .ref msg :: .ref mln :: .ref mcl :: .ref mcs :: .ref mrd :: .int snx :: .int swr :: .int snu :: .int ste :: .int sma :: .int sde :: .int sli :: .ref mop :: .int sod :: .ref mst :: .int sto :: .ref mwd :: .ref msd :: .int sx_ :: .ref mws :: .int sun :: .ref mfr :: .ref mqu :: .ref miw :: .int sfi :: .int swa :: .long sdx :: .ref mim :: .ref mix :: .ref mmd :: []))), (msd, .inl ((cs 0), 133, .inl gsd))]) [0, 1] (by decide) rfl
    exact W.iret (v := (-2)) hx hb hr (fun t9 ht9 hW9 => ⟨⟨_, (), rfl, trivial, ⟨gsd, hsi, rfl, by rw [ht9]; exact hP9, hD9⟩⟩, hS.F ht9⟩) hS.2.2 dX12_seat_28
  · have r_8 : Rg 1 1 x_3 := Rg.ne c_6 r_5.1 (Rg.c (c := 0) (k := 0) rfl) (by decide)
    have r_9 : Rg 0 9 a := in_rg e_2 (r_5.2 c_6) (by decide) (by decide)
    refine lv_iload_n hx hb dX12_seat_12 rfl (lv_at hl 2 rfl) ?_
    refine lv_i2l (v := Int32.toInt64 b) hx hb dX12_seat_13 rfl ?_
    refine lv_topl (fun x_10 e_11 => ?_)
    refine lv_ldc2 (v := (-1)) hx hb hown (hT _ qq_8_64) dX12_seat_14 ?_
    refine lv_ldc2 (v := 9) hx hb hown (hT _ qq_8_36) dX12_seat_17 ?_
    have hPc := va_P.sub (ws' := []) hP [] rfl
    refine cl_P (W.runS (As := [.long x_10, .long (-1), .long 9]) (rest := []) ⟨hx, hb, hml, hown, hts⟩ (c_M_in l D cs x_10 (-1) 9) ⟨callB_of 3 hts (gd_C qq_6_97) rfl rfl rfl (hT _ qq_1_9) (hT _ qq_6_95) (by decide +kernel) (rm_R rfl rfl), (hT _ qq_6_96)⟩ (pq_S hPc hK hN) rfl rfl hl.1 rfl (lv_room (Nat.le_of_ble_eq_true rfl)) dX12_seat_20 ⟨Nat.le_of_ble_eq_true rfl, Nat.le_of_ble_eq_true rfl⟩) (fun v9 hz_13 => ?_)
    obtain ⟨x_12, rfl, r_14⟩ := hz_13
    refine lv_if_ne (tgt := 29) hx hb dX12_seat_23 (by decide) (fun c_15 => ?_) (fun c_15 => ?_)
    · have r_16 : Rg 1 1 x_12 := Rg.ne c_15 r_14.1 (Rg.c (c := 0) (k := 0) rfl) (by decide)
      have r_17 : Rg (-1) 9 b := in_rg e_11 (r_14.2 c_15) (by decide) (by decide)
      refine lv_aload_n hx hb dX12_seat_29 rfl (lv_at hl 0 rfl) ?_
      refine va_get (D := D) (ci := 10) (v := .ref msd) (C := "WrongHoleModel") (T := TX12) (N := 33) hx hb hts (iq_RX12 _) hown hK hP 0 rfl rfl 20 (by decide) (hT _ qq_5_172) (fun _ h9 => h9) rfl dX12_seat_30 ?_
      refine lv_bipush (v := 92) hx hb dX12_seat_33 (by decide) ?_
      refine lv_iload_n hx hb dX12_seat_35 rfl (lv_at hl 1 rfl) ?_
      refine lv_iadd hx hb dX12_seat_36 ?_
      refine lv_topi (fun x_19 e_20 => ?_)
      have r_21 : Rg 92 101 x_19 := Rg.add e_20 (Rg.c (c := 92) (k := 92) rfl) r_9 (by decide)
      have hi_22 : vp_in x_19 133 := Rg.in r_21 (by decide)
      refine va_iald hx hb hK hP 1 0 rfl rfl hi_22 dX12_seat_37 ?_
      refine lv_topi (fun x_23 e_24 => ?_)
      refine lv_istore_n (lv' := [(3, .int x_23), (0, .ref m0), (1, .int a), (2, .int b)]) hx hb dX12_seat_38 rfl hl (by decide) rfl (fun ls hl => ?_)
      refine lv_iconst (v := 0) hx hb dX12_seat_39 (by decide) ?_
      refine lv_istore (lv' := [(4, .int 0), (3, .int x_23), (0, .ref m0), (1, .int a), (2, .int b)]) hx hb dX12_seat_40 hl (by decide) rfl (fun ls hl => ?_)
      refine w_wh (σ := (Int32) × (Nat → Int32)) (fun x9 H locs ls => match x9 with | (v_42, g_43) => Rg 0 10 v_42 ∧ (SI g_43 ∧ g_43 0 = gsd 0 ∧ (0 ≤ Int32.toInt b → ∀ j, j < cN v_42 → g_43 (92 + j) ≠ b)) ∧ va_P D vwCl [(m0, .inr (10, (.ref mtp :: .int sta :: .int sru :: .ref msg :: .ref mln :: .ref mcl :: .ref mcs :: .ref mrd :: .int snx :: .int swr :: .int snu :: .int ste :: .int sma :: .int sde :: .int sli :: .ref mop :: .int sod :: .ref mst :: .int sto :: .ref mwd :: .ref msd :: .int sx_ :: .ref mws :: .int sun :: .ref mfr :: .ref mqu :: .ref miw :: .int sfi :: .int swa :: .long sdx :: .ref mim :: .ref mix :: .ref mmd :: []))), (msd, .inl ((cs 0), 133, .inl g_43))] H ∧ va_D A [(m0, .inr (10, (.ref mtp :: .int sta :: .int sru :: .ref msg :: .ref mln :: .ref mcl :: .ref mcs :: .ref mrd :: .int snx :: .int swr :: .int snu :: .int ste :: .int sma :: .int sde :: .int sli :: .ref mop :: .int sod :: .ref mst :: .int sto :: .ref mwd :: .ref msd :: .int sx_ :: .ref mws :: .int sun :: .ref mfr :: .ref mqu :: .ref miw :: .int sfi :: .int swa :: .long sdx :: .ref mim :: .ref mix :: .ref mmd :: []))), (msd, .inl ((cs 0), 133, .inl g_43))] ∧ va_S A s.heap H locs ∧ lv_has ls 5 [(4, .int v_42), (3, .int x_23), (0, .ref m0), (1, .int a), (2, .int b)]) (fun x9 => match x9 with | (v_42, g_43) => (10 - Int32.toInt v_42).toNat) 42 ?_ (0, gsd) H locs ls ⟨(Rg.wk (lo2 := 0) (hi2 := 10) (Rg.c (c := 0) (k := 0) rfl) (by decide)), ⟨hsi, rfl, fun _ j hj => absurd hj (Nat.not_lt_zero j)⟩, hP, hD, hS, lv_sub hl [0, 1, 2, 3, 4] rfl⟩
      rintro ⟨v_42, g_43⟩ H locs ls ⟨r_389, iv_390, hP, hD, hS, hl⟩ ih_388
      refine lv_iload hx hb dX12_seat_42 (lv_at hl 0 rfl) ?_
      refine lv_bipush (v := 10) hx hb dX12_seat_44 (by decide) ?_
      refine lv_icmp_ge (tgt := 84) hx hb dX12_seat_46 (by decide) (fun c_391 => ?_) (fun c_391 => ?_)
      · have r_392 : Rg 10 10 v_42 := Rg.le_r c_391 (Rg.c (c := 10) (k := 10) rfl) r_389 (by decide)
        refine lv_aload_n hx hb dX12_seat_84 rfl (lv_at hl 2 rfl) ?_
        refine va_get (D := D) (ci := 10) (v := .ref msd) (C := "WrongHoleModel") (T := TX12) (N := 33) hx hb hts (iq_RX12 _) hown hK hP 0 rfl rfl 20 (by decide) (hT _ qq_5_172) (fun _ h9 => h9) rfl dX12_seat_85 ?_
        refine lv_bipush (v := 92) hx hb dX12_seat_88 (by decide) ?_
        refine lv_iload_n hx hb dX12_seat_90 rfl (lv_at hl 3 rfl) ?_
        refine lv_iadd hx hb dX12_seat_91 ?_
        refine lv_topi (fun x_425 e_426 => ?_)
        have r_427 : Rg 92 101 x_425 := Rg.add e_426 (Rg.c (c := 92) (k := 92) rfl) r_9 (by decide)
        refine lv_iload_n hx hb dX12_seat_92 rfl (lv_at hl 4 rfl) ?_
        have hi_428 : vp_in x_425 133 := Rg.in r_427 (by decide)
        refine va_iast hx hb hK hP hD hS 1 0 rfl rfl hi_428 dX12_seat_93 (fun H locs hP hD hS => ?_)
        obtain ⟨g_429, rb_430, hP, hD⟩ : ∃ g_429 : Nat → Int32, (SI g_429 ∧ g_429 0 = gsd 0) ∧ va_P D vwCl [(m0, .inr (10, (.ref mtp :: .int sta :: .int sru :: .ref msg :: .ref mln :: .ref mcl :: .ref mcs :: .ref mrd :: .int snx :: .int swr :: .int snu :: .int ste :: .int sma :: .int sde :: .int sli :: .ref mop :: .int sod :: .ref mst :: .int sto :: .ref mwd :: .ref msd :: .int sx_ :: .ref mws :: .int sun :: .ref mfr :: .ref mqu :: .ref miw :: .int sfi :: .int swa :: .long sdx :: .ref mim :: .ref mix :: .ref mmd :: []))), (msd, .inl ((cs 0), 133, .inl g_429))] H ∧ va_D A [(m0, .inr (10, (.ref mtp :: .int sta :: .int sru :: .ref msg :: .ref mln :: .ref mcl :: .ref mcs :: .ref mrd :: .int snx :: .int swr :: .int snu :: .int ste :: .int sma :: .int sde :: .int sli :: .ref mop :: .int sod :: .ref mst :: .int sto :: .ref mwd :: .ref msd :: .int sx_ :: .ref mws :: .int sun :: .ref mfr :: .ref mqu :: .ref miw :: .int sfi :: .int swa :: .long sdx :: .ref mim :: .ref mix :: .ref mmd :: []))), (msd, .inl ((cs 0), 133, .inl g_429))] := ⟨_, se_e iv_390 (ix_add (k := 92) e_426 r_9 (by decide) ⟨by decide, rfl⟩) (cN_lt (n := 10) r_9 (by decide)) r_17 (le_cN c_391 (Rg.c (c := 10) (k := 10) rfl) r_392 (by decide)), hP, hD⟩
        refine lv_iload_n hx hb dX12_seat_94 rfl (lv_at hl 1 rfl) ?_
        refine W.widen (k := 0) (n := 0) (Nat.le_of_ble_eq_true rfl) (Nat.le_of_ble_eq_true rfl) ?_
        have hP9 := hP.sub (ws' := [(m0, .inr (10, (.ref mtp :: .int sta :: .int sru :: .ref msg :: .ref mln :: .ref mcl :: .ref mcs :: .ref mrd :: .int snx :: .int swr :: .int snu :: .int ste :: .int sma :: .int sde :: .int sli :: .ref mop :: .int sod :: .ref mst :: .int sto :: .ref mwd :: .ref msd :: .int sx_ :: .ref mws :: .int sun :: .ref mfr :: .ref mqu :: .ref miw :: .int sfi :: .int swa :: .long sdx :: .ref mim :: .ref mix :: .ref mmd :: []))), (msd, .inl ((cs 0), 133, .inl g_429))]) [0, 1] rfl
        have hD9 := hD.sub (ws' := [(m0, .inr (10, (.ref mtp :: .int sta :: .int sru :: .ref msg :: .ref mln :: .ref mcl :: .ref mcs :: .ref mrd :: .int snx :: .int swr :: .int snu :: .int ste :: .int sma :: .int sde :: .int sli :: .ref mop :: .int sod :: .ref mst :: .int sto :: .ref mwd :: .ref msd :: .int sx_ :: .ref mws :: .int sun :: .ref mfr :: .ref mqu :: .ref miw :: .int sfi :: .int swa :: .long sdx :: .ref mim :: .ref mix :: .ref mmd :: []))), (msd, .inl ((cs 0), 133, .inl g_429))]) [0, 1] (by decide) rfl
        exact W.iret (v := x_23) hx hb hr (fun t9 ht9 hW9 => ⟨⟨_, (), rfl, trivial, ⟨g_429, rb_430.1, rb_430.2, by rw [ht9]; exact hP9, hD9⟩⟩, hS.F ht9⟩) hS.2.2 dX12_seat_95
      · have r_393 : Rg 0 9 v_42 := Rg.lt_l (nle_lt c_391) r_389 (Rg.c (c := 10) (k := 10) rfl) (by decide)
        refine lv_iload_n hx hb dX12_seat_49 rfl (lv_at hl 4 rfl) ?_
        refine w_cut (σ := (Nat → Int32)) (fun (g_446 : Nat → Int32) H locs ls => (SI g_446 ∧ g_446 0 = gsd 0 ∧ (0 ≤ Int32.toInt b → ∀ j, j < cN v_42 + 1 → g_446 (92 + j) ≠ b)) ∧ va_P D vwCl [(m0, .inr (10, (.ref mtp :: .int sta :: .int sru :: .ref msg :: .ref mln :: .ref mcl :: .ref mcs :: .ref mrd :: .int snx :: .int swr :: .int snu :: .int ste :: .int sma :: .int sde :: .int sli :: .ref mop :: .int sod :: .ref mst :: .int sto :: .ref mwd :: .ref msd :: .int sx_ :: .ref mws :: .int sun :: .ref mfr :: .ref mqu :: .ref miw :: .int sfi :: .int swa :: .long sdx :: .ref mim :: .ref mix :: .ref mmd :: []))), (msd, .inl ((cs 0), 133, .inl g_446))] H ∧ va_D A [(m0, .inr (10, (.ref mtp :: .int sta :: .int sru :: .ref msg :: .ref mln :: .ref mcl :: .ref mcs :: .ref mrd :: .int snx :: .int swr :: .int snu :: .int ste :: .int sma :: .int sde :: .int sli :: .ref mop :: .int sod :: .ref mst :: .int sto :: .ref mwd :: .ref msd :: .int sx_ :: .ref mws :: .int sun :: .ref mfr :: .ref mqu :: .ref miw :: .int sfi :: .int swa :: .long sdx :: .ref mim :: .ref mix :: .ref mmd :: []))), (msd, .inl ((cs 0), 133, .inl g_446))] ∧ va_S A s.heap H locs ∧ lv_has ls 5 [(4, .int v_42), (3, .int x_23), (0, .ref m0), (1, .int a), (2, .int b)]) 78 (fun (g_446 : Nat → Int32) => []) ?_ (fun hj_447 => ?_)
        · rintro g_446 H locs ls ⟨iv_448, hP, hD, hS, hl⟩
          obtain ⟨x_449, e_450⟩ : ∃ z : Int32, z = v_42 + Int32.ofInt 1 := ⟨_, rfl⟩
          have r_451 : Rg 1 10 x_449 := Rg.add e_450 r_393 (Rg.c (c := Int32.ofInt 1) (k := 1) rfl) (by decide)
          refine lv_iinc (v := x_449) (lv' := [(4, .int x_449), (3, .int x_23), (0, .ref m0), (1, .int a), (2, .int b)]) hx hb dX12_seat_78 hl (k := 0) rfl (e_450.symm) (by decide) rfl (fun ls hl => ?_)
          refine lv_goto (tgt := 42) hx hb dX12_seat_81 (by decide) ?_
          exact ih_388 (x_449, g_446) _ _ _ ⟨(Rg.wk (lo2 := 0) (hi2 := 10) r_451 (by decide)), (by rw [(cN_add (k := 1) e_450 r_393 (Rg.c (c := Int32.ofInt 1) (k := 1) rfl) (by decide))]; exact iv_448), hP, hD, hS, lv_sub hl [0, 1, 2, 3, 4] rfl⟩ (ms_up e_450 r_393 (Rg.c (c := Int32.ofInt 1) (k := 1) rfl) (by decide))
        · refine lv_if_lt (tgt := 78) hx hb dX12_seat_50 (by decide) (fun c_431 => ?_) (fun c_431 => ?_)
          · have r_432 : Rg (-1) (-1) b := Rg.lt_l c_431 r_17 (Rg.c (c := 0) (k := 0) rfl) (by decide)
            exact hj_447 g_43 _ _ _ ⟨⟨iv_390.1, iv_390.2.1, fun h9 => absurd h9 (by have h8 := c_431; rw [i_lt] at h8; have h7 : Int32.toInt 0 = 0 := rfl; omega)⟩, hP, hD, hS, lv_sub hl [0, 1, 2, 3, 4] rfl⟩
          · have r_433 : Rg 0 9 b := Rg.le_r (nlt_le c_431) (Rg.c (c := 0) (k := 0) rfl) r_17 (by decide)
            refine lv_aload_n hx hb dX12_seat_53 rfl (lv_at hl 2 rfl) ?_
            refine va_get (D := D) (ci := 10) (v := .ref msd) (C := "WrongHoleModel") (T := TX12) (N := 33) hx hb hts (iq_RX12 _) hown hK hP 0 rfl rfl 20 (by decide) (hT _ qq_5_172) (fun _ h9 => h9) rfl dX12_seat_54 ?_
            refine lv_bipush (v := 92) hx hb dX12_seat_57 (by decide) ?_
            refine lv_iload hx hb dX12_seat_59 (lv_at hl 0 rfl) ?_
            refine lv_iadd hx hb dX12_seat_61 ?_
            refine lv_topi (fun x_452 e_453 => ?_)
            have r_454 : Rg 92 101 x_452 := Rg.add e_453 (Rg.c (c := 92) (k := 92) rfl) r_393 (by decide)
            have hi_455 : vp_in x_452 133 := Rg.in r_454 (by decide)
            refine va_iald hx hb hK hP 1 0 rfl rfl hi_455 dX12_seat_62 ?_
            refine lv_topi (fun x_456 e_457 => ?_)
            refine lv_iload_n hx hb dX12_seat_63 rfl (lv_at hl 4 rfl) ?_
            refine lv_icmp_ne (tgt := 78) hx hb dX12_seat_64 (by decide) (fun c_458 => ?_) (fun c_458 => ?_)
            · exact hj_447 g_43 _ _ _ ⟨⟨iv_390.1, iv_390.2.1, fun h9 => se_n (iv_390.2.2 h9) (show x_456 = g_43 (92 + cN v_42) from by rw [e_457, show Int32.toNatClampNeg x_452 = _ from (ix_add (k := 92) e_453 r_393 (by decide) ⟨by decide, rfl⟩)]) c_458⟩, hP, hD, hS, lv_sub hl [0, 1, 2, 3, 4] rfl⟩
            · have r_459 : Rg 0 9 x_456 := Rg.eq_l c_458 (Rg.top x_456) r_433 (by decide)
              refine lv_aload_n hx hb dX12_seat_67 rfl (lv_at hl 2 rfl) ?_
              refine va_get (D := D) (ci := 10) (v := .ref msd) (C := "WrongHoleModel") (T := TX12) (N := 33) hx hb hts (iq_RX12 _) hown hK hP 0 rfl rfl 20 (by decide) (hT _ qq_5_172) (fun _ h9 => h9) rfl dX12_seat_68 ?_
              refine lv_bipush (v := 92) hx hb dX12_seat_71 (by decide) ?_
              refine lv_iload hx hb dX12_seat_73 (lv_at hl 0 rfl) ?_
              refine lv_iadd hx hb dX12_seat_75 ?_
              refine lv_topi (fun x_460 e_461 => ?_)
              have r_462 : Rg 92 101 x_460 := Rg.add e_461 (Rg.c (c := 92) (k := 92) rfl) r_393 (by decide)
              refine lv_iconst (v := (-1)) hx hb dX12_seat_76 (by decide) ?_
              have hi_463 : vp_in x_460 133 := Rg.in r_462 (by decide)
              refine va_iast hx hb hK hP hD hS 1 0 rfl rfl hi_463 dX12_seat_77 (fun H locs hP hD hS => ?_)
              obtain ⟨g_464, rb_465, hP, hD⟩ : ∃ g_464 : Nat → Int32, (SI g_464 ∧ g_464 0 = gsd 0 ∧ (0 ≤ Int32.toInt b → ∀ j, j < cN v_42 + 1 → g_464 (92 + j) ≠ b)) ∧ va_P D vwCl [(m0, .inr (10, (.ref mtp :: .int sta :: .int sru :: .ref msg :: .ref mln :: .ref mcl :: .ref mcs :: .ref mrd :: .int snx :: .int swr :: .int snu :: .int ste :: .int sma :: .int sde :: .int sli :: .ref mop :: .int sod :: .ref mst :: .int sto :: .ref mwd :: .ref msd :: .int sx_ :: .ref mws :: .int sun :: .ref mfr :: .ref mqu :: .ref miw :: .int sfi :: .int swa :: .long sdx :: .ref mim :: .ref mix :: .ref mmd :: []))), (msd, .inl ((cs 0), 133, .inl g_464))] H ∧ va_D A [(m0, .inr (10, (.ref mtp :: .int sta :: .int sru :: .ref msg :: .ref mln :: .ref mcl :: .ref mcs :: .ref mrd :: .int snx :: .int swr :: .int snu :: .int ste :: .int sma :: .int sde :: .int sli :: .ref mop :: .int sod :: .ref mst :: .int sto :: .ref mwd :: .ref msd :: .int sx_ :: .ref mws :: .int sun :: .ref mfr :: .ref mqu :: .ref miw :: .int sfi :: .int swa :: .long sdx :: .ref mim :: .ref mix :: .ref mmd :: []))), (msd, .inl ((cs 0), 133, .inl g_464))] := ⟨_, se_s iv_390 (ix_add (k := 92) e_461 r_393 (by decide) ⟨by decide, rfl⟩) (cN_lt (n := 10) r_393 (by decide)), hP, hD⟩
              exact hj_447 g_464 _ _ _ ⟨rb_465, hP, hD, hS, lv_sub hl [0, 1, 2, 3, 4] rfl⟩
    · have r_18 : Rg 0 0 x_12 := Rg.eq_l c_15 r_14.1 (Rg.c (c := 0) (k := 0) rfl) (by decide)
      refine lv_bipush (v := (-2)) hx hb dX12_seat_26 (by decide) ?_
      refine W.widen (k := 0) (n := 0) (Nat.le_of_ble_eq_true rfl) (Nat.le_of_ble_eq_true rfl) ?_
      have hP9 := hP.sub (ws' := [(m0, .inr (10, (.ref mtp :: .int sta :: .int sru :: .ref msg :: .ref mln :: .ref mcl :: .ref mcs :: .ref mrd :: .int snx :: .int swr :: .int snu :: .int ste :: .int sma :: .int sde :: .int sli :: .ref mop :: .int sod :: .ref mst :: .int sto :: .ref mwd :: .ref msd :: .int sx_ :: .ref mws :: .int sun :: .ref mfr :: .ref mqu :: .ref miw :: .int sfi :: .int swa :: .long sdx :: .ref mim :: .ref mix :: .ref mmd :: []))), (msd, .inl ((cs 0), 133, .inl gsd))]) [0, 1] rfl
      have hD9 := hD.sub (ws' := [(m0, .inr (10, (.ref mtp :: .int sta :: .int sru :: .ref msg :: .ref mln :: .ref mcl :: .ref mcs :: .ref mrd :: .int snx :: .int swr :: .int snu :: .int ste :: .int sma :: .int sde :: .int sli :: .ref mop :: .int sod :: .ref mst :: .int sto :: .ref mwd :: .ref msd :: .int sx_ :: .ref mws :: .int sun :: .ref mfr :: .ref mqu :: .ref miw :: .int sfi :: .int swa :: .long sdx :: .ref mim :: .ref mix :: .ref mmd :: []))), (msd, .inl ((cs 0), 133, .inl gsd))]) [0, 1] (by decide) rfl
      exact W.iret (v := (-2)) hx hb hr (fun t9 ht9 hW9 => ⟨⟨_, (), rfl, trivial, ⟨gsd, hsi, rfl, by rw [ht9]; exact hP9, hD9⟩⟩, hS.F ht9⟩) hS.2.2 dX12_seat_28
