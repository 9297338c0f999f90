theorem dX12_seenOf_0 : decode cX12_seenOf 0 = .ok (.iconst 0, 1) := by decide +kernel
theorem dX12_seenOf_1 : decode cX12_seenOf 1 = .ok (.istore_n 3, 1) := by decide +kernel
theorem dX12_seenOf_2 : decode cX12_seenOf 2 = .ok (.iconst 0, 1) := by decide +kernel
theorem dX12_seenOf_3 : decode cX12_seenOf 3 = .ok (.istore 4, 2) := by decide +kernel
theorem dX12_seenOf_5 : decode cX12_seenOf 5 = .ok (.iload 4, 2) := by decide +kernel
theorem dX12_seenOf_7 : decode cX12_seenOf 7 = .ok (.aload_n 0, 1) := by decide +kernel
theorem dX12_seenOf_8 : decode cX12_seenOf 8 = .ok (.getfield 39, 3) := by decide +kernel
theorem dX12_seenOf_11 : decode cX12_seenOf 11 = .ok (.iconst 2, 1) := by decide +kernel
theorem dX12_seenOf_12 : decode cX12_seenOf 12 = .ok (.iaload, 1) := by decide +kernel
theorem dX12_seenOf_13 : decode cX12_seenOf 13 = .ok (.if_icmp .ge 71, 3) := by decide +kernel
theorem dX12_seenOf_84 : decode cX12_seenOf 84 = .ok (.iload_n 3, 1) := by decide +kernel
theorem dX12_seenOf_85 : decode cX12_seenOf 85 = .ok (.ireturn, 1) := by decide +kernel
theorem dX12_seenOf_16 : decode cX12_seenOf 16 = .ok (.iload_n 3, 1) := by decide +kernel
theorem dX12_seenOf_17 : decode cX12_seenOf 17 = .ok (.iload_n 1, 1) := by decide +kernel
theorem dX12_seenOf_18 : decode cX12_seenOf 18 = .ok (.i2l, 1) := by decide +kernel
theorem dX12_seenOf_19 : decode cX12_seenOf 19 = .ok (.aload_n 0, 1) := by decide +kernel
theorem dX12_seenOf_20 : decode cX12_seenOf 20 = .ok (.getfield 39, 3) := by decide +kernel
theorem dX12_seenOf_23 : decode cX12_seenOf 23 = .ok (.bipush 74, 2) := by decide +kernel
theorem dX12_seenOf_25 : decode cX12_seenOf 25 = .ok (.iconst 3, 1) := by decide +kernel
theorem dX12_seenOf_26 : decode cX12_seenOf 26 = .ok (.iload 4, 2) := by decide +kernel
theorem dX12_seenOf_28 : decode cX12_seenOf 28 = .ok (.imul, 1) := by decide +kernel
theorem dX12_seenOf_29 : decode cX12_seenOf 29 = .ok (.iadd, 1) := by decide +kernel
theorem dX12_seenOf_30 : decode cX12_seenOf 30 = .ok (.iaload, 1) := by decide +kernel
theorem dX12_seenOf_31 : decode cX12_seenOf 31 = .ok (.i2l, 1) := by decide +kernel
theorem dX12_seenOf_32 : decode cX12_seenOf 32 = .ok (.aload_n 0, 1) := by decide +kernel
theorem dX12_seenOf_33 : decode cX12_seenOf 33 = .ok (.getfield 39, 3) := by decide +kernel
theorem dX12_seenOf_36 : decode cX12_seenOf 36 = .ok (.bipush 74, 2) := by decide +kernel
theorem dX12_seenOf_38 : decode cX12_seenOf 38 = .ok (.iconst 3, 1) := by decide +kernel
theorem dX12_seenOf_39 : decode cX12_seenOf 39 = .ok (.iload 4, 2) := by decide +kernel
theorem dX12_seenOf_41 : decode cX12_seenOf 41 = .ok (.imul, 1) := by decide +kernel
theorem dX12_seenOf_42 : decode cX12_seenOf 42 = .ok (.iadd, 1) := by decide +kernel
theorem dX12_seenOf_43 : decode cX12_seenOf 43 = .ok (.iconst 1, 1) := by decide +kernel
theorem dX12_seenOf_44 : decode cX12_seenOf 44 = .ok (.iadd, 1) := by decide +kernel
theorem dX12_seenOf_45 : decode cX12_seenOf 45 = .ok (.iaload, 1) := by decide +kernel
theorem dX12_seenOf_46 : decode cX12_seenOf 46 = .ok (.i2l, 1) := by decide +kernel
theorem dX12_seenOf_47 : decode cX12_seenOf 47 = .ok (.invokestatic 104, 3) := by decide +kernel
theorem qq_6_97 : Cond.code yX12_in cX12_in 6 (some .boolean) ∈ TB := mk_tb (ti_6 (List.mem_of_getElem? (i := 97) rfl)) rfl
theorem qq_6_95 : Cond.methodLink "WrongHoleModel" 104 yX12_in ∈ TB := mk_tb (ti_6 (List.mem_of_getElem? (i := 95) rfl)) rfl
theorem qq_6_96 : Cond.static yX12_in ∈ TB := mk_tb (ti_6 (List.mem_of_getElem? (i := 96) rfl)) rfl
theorem dX12_seenOf_50 : decode cX12_seenOf 50 = .ok (.ifCond .eq 25, 3) := by decide +kernel
theorem dX12_seenOf_76 : decode cX12_seenOf 76 = .ok (.iadd, 1) := by decide +kernel
theorem dX12_seenOf_77 : decode cX12_seenOf 77 = .ok (.istore_n 3, 1) := by decide +kernel
theorem dX12_seenOf_78 : decode cX12_seenOf 78 = .ok (.iinc 4 1, 3) := by decide +kernel
theorem dX12_seenOf_81 : decode cX12_seenOf 81 = .ok (.goto (-76), 3) := by decide +kernel
theorem dX12_seenOf_75 : decode cX12_seenOf 75 = .ok (.iconst 0, 1) := by decide +kernel
theorem dX12_seenOf_53 : decode cX12_seenOf 53 = .ok (.aload_n 0, 1) := by decide +kernel
theorem dX12_seenOf_54 : decode cX12_seenOf 54 = .ok (.getfield 39, 3) := by decide +kernel
theorem dX12_seenOf_57 : decode cX12_seenOf 57 = .ok (.bipush 74, 2) := by decide +kernel
theorem dX12_seenOf_59 : decode cX12_seenOf 59 = .ok (.iconst 3, 1) := by decide +kernel
theorem dX12_seenOf_60 : decode cX12_seenOf 60 = .ok (.iload 4, 2) := by decide +kernel
theorem dX12_seenOf_62 : decode cX12_seenOf 62 = .ok (.imul, 1) := by decide +kernel
theorem dX12_seenOf_63 : decode cX12_seenOf 63 = .ok (.iadd, 1) := by decide +kernel
theorem dX12_seenOf_64 : decode cX12_seenOf 64 = .ok (.iconst 2, 1) := by decide +kernel
theorem dX12_seenOf_65 : decode cX12_seenOf 65 = .ok (.iadd, 1) := by decide +kernel
theorem dX12_seenOf_66 : decode cX12_seenOf 66 = .ok (.iaload, 1) := by decide +kernel
theorem dX12_seenOf_67 : decode cX12_seenOf 67 = .ok (.iload_n 2, 1) := by decide +kernel
theorem dX12_seenOf_68 : decode cX12_seenOf 68 = .ok (.if_icmp .gt 7, 3) := by decide +kernel
theorem dX12_seenOf_71 : decode cX12_seenOf 71 = .ok (.iconst 1, 1) := by decide +kernel
theorem dX12_seenOf_72 : decode cX12_seenOf 72 = .ok (.goto 4, 3) := by decide +kernel
set_option maxHeartbeats 4000000 in
set_option maxRecDepth 100000 in
theorem c_M_seenOf (l : Launch) (D : va_G) (cs : Nat → ClassId) (m0 : Nat) (mtp : Nat) (sta : Int32) (sru : Int32) (msg : Nat) (mln : Nat) (mcl : Nat) (mcs : Nat) (mrd : Nat) (snx : Int32) (swr : Int32) (snu : Int32) (ste : Int32) (sma : Int32) (sde : Int32) (sli : Int32) (mop : Nat) (sod : Int32) (mst : Nat) (sto : Int32) (mwd : Nat) (msd : Nat) (sx_ : Int32) (mws : Nat) (sun : Int32) (mfr : Nat) (mqu : Nat) (miw : Nat) (sfi : Int32) (swa : Int32) (sdx : Int64) (mim : Nat) (mix : Nat) (mmd : Nat) (gsd : Nat → Int32) (b : Int32) (h : Int32) (hsi : SI gsd) : Met l yX12_seenOf (Cond.code yX12_seenOf cX12_seenOf 5 (some .int) :: TB) (RM 1 0 0) (va_Pc [.ref m0, .int b, .int h] (PRR D cs [(m0, .inr (10, (.ref mtp :: .int sta :: .int sru :: .ref msg :: .ref mln :: .ref mcl :: .ref mcs :: .ref mrd :: .int snx :: .int swr :: .int snu :: .int ste :: .int sma :: .int sde :: .int sli :: .ref mop :: .int sod :: .ref mst :: .int sto :: .ref mwd :: .ref msd :: .int sx_ :: .ref mws :: .int sun :: .ref mfr :: .ref mqu :: .ref miw :: .int sfi :: .int swa :: .long sdx :: .ref mim :: .ref mix :: .ref mmd :: []))), (msd, .inl ((cs 0), 133, .inl gsd))])) (QP (fun v => ∃ x : Int32, v = .int x)) 0 0 (fun _ => False) := by
  refine MER (y := yX12_seenOf) (cc := cX12_seenOf) (maxL := 5) (ret := (some .int)) (d := 1) (D := D) (cs := cs) (ws := [(m0, .inr (10, (.ref mtp :: .int sta :: .int sru :: .ref msg :: .ref mln :: .ref mcl :: .ref mcs :: .ref mrd :: .int snx :: .int swr :: .int snu :: .int ste :: .int sma :: .int sde :: .int sli :: .ref mop :: .int sod :: .ref mst :: .int sto :: .ref mwd :: .ref msd :: .int sx_ :: .ref mws :: .int sun :: .ref mfr :: .ref mqu :: .ref miw :: .int sfi :: .int swa :: .long sdx :: .ref mim :: .ref mix :: .ref mmd :: []))), (msd, .inl ((cs 0), 133, .inl gsd))]) (av := [.ref m0, .int b, .int h]) (Qc := QP (fun v => ∃ x : Int32, v = .int x)) (by decide) (Nat.le_of_ble_eq_true rfl) ?_
  intro p e s m below meth c ls H hHe hx hb hr hml hown hts hlocks hP hK hN hl
  obtain ⟨locs, hlc⟩ : ∃ z : List Loc, z = [] := ⟨_, rfl⟩
  rw [← hlc]
  have hown : s.vm.findClass "WrongHoleModel" = some m.cls := hown
  have hT : ∀ w ∈ TB, w.before ([.ref m0, .int b, .int h] : List Value).toArray s = true := fun w h => hts w (List.mem_cons_of_mem _ h)
  have hl : lv_has ls 5 [(0, .ref m0), (1, .int b), (2, .int h)] := hl
  have hP : va_P D vwCl [(m0, .inr (10, (.ref mtp :: .int sta :: .int sru :: .ref msg :: .ref mln :: .ref mcl :: .ref mcs :: .ref mrd :: .int snx :: .int swr :: .int snu :: .int ste :: .int sma :: .int sde :: .int sli :: .ref mop :: .int sod :: .ref mst :: .int sto :: .ref mwd :: .ref msd :: .int sx_ :: .ref mws :: .int sun :: .ref mfr :: .ref mqu :: .ref miw :: .int sfi :: .int swa :: .long sdx :: .ref mim :: .ref mix :: .ref mmd :: []))), (msd, .inl ((cs 0), 133, .inl gsd))] H := hP
  refine lv_iconst (v := 0) hx hb dX12_seenOf_0 (by decide) ?_
  refine lv_istore_n (lv' := [(3, .int 0), (0, .ref m0), (1, .int b), (2, .int h)]) hx hb dX12_seenOf_1 rfl hl (by decide) rfl (fun ls hl => ?_)
  refine lv_iconst (v := 0) hx hb dX12_seenOf_2 (by decide) ?_
  refine lv_istore (lv' := [(4, .int 0), (3, .int 0), (0, .ref m0), (1, .int b), (2, .int h)]) hx hb dX12_seenOf_3 hl (by decide) rfl (fun ls hl => ?_)
  refine w_wh (σ := (Int32) × (Int32)) (fun x9 H locs ls => match x9 with | (v_67, v_68) => Rg 0 6 v_67 ∧ H = s.heap ∧ locs = [] ∧ va_P D vwCl [(m0, .inr (10, (.ref mtp :: .int sta :: .int sru :: .ref msg :: .ref mln :: .ref mcl :: .ref mcs :: .ref mrd :: .int snx :: .int swr :: .int snu :: .int ste :: .int sma :: .int sde :: .int sli :: .ref mop :: .int sod :: .ref mst :: .int sto :: .ref mwd :: .ref msd :: .int sx_ :: .ref mws :: .int sun :: .ref mfr :: .ref mqu :: .ref miw :: .int sfi :: .int swa :: .long sdx :: .ref mim :: .ref mix :: .ref mmd :: []))), (msd, .inl ((cs 0), 133, .inl gsd))] H ∧ lv_has ls 5 [(4, .int v_67), (3, .int v_68), (0, .ref m0), (1, .int b), (2, .int h)]) (fun x9 => match x9 with | (v_67, v_68) => (6 - Int32.toInt v_67).toNat) 5 ?_ (0, 0) H locs ls ⟨(Rg.wk (lo2 := 0) (hi2 := 6) (Rg.c (c := 0) (k := 0) rfl) (by decide)), hHe, hlc, hP, lv_sub hl [0, 1, 2, 3, 4] rfl⟩
  rintro ⟨v_67, v_68⟩ H locs ls ⟨r_1988, hHe, hlc, hP, hl⟩ ih_1987
  refine lv_iload hx hb dX12_seenOf_5 (lv_at hl 0 rfl) ?_
  refine lv_aload_n hx hb dX12_seenOf_7 rfl (lv_at hl 2 rfl) ?_
  refine va_get (D := D) (ci := 10) (v := .ref msd) (C := "WrongHoleModel") (T := TX12) (N := 33) hx hb hts (iq_RX12 _) hown hK hP 0 rfl rfl 20 (by decide) (hT _ qq_5_172) (fun _ h9 => h9) rfl dX12_seenOf_8 ?_
  refine lv_iconst (v := 2) hx hb dX12_seenOf_11 (by decide) ?_
  have hi_1989 : vp_in 2 133 := vi_c rfl
  refine va_iald hx hb hK hP 1 0 rfl rfl hi_1989 dX12_seenOf_12 ?_
  refine lv_topi (fun x_1990 e_1991 => ?_)
  have r_1992 : Rg 0 6 x_1990 := Rg.of e_1991 (hsi.a2)
  refine lv_icmp_ge (tgt := 84) hx hb dX12_seenOf_13 (by decide) (fun c_1993 => ?_) (fun c_1993 => ?_)
  · refine lv_iload_n hx hb dX12_seenOf_84 rfl (lv_at hl 1 rfl) ?_
    exact W.iret (v := v_68) hx hb hr (fun t9 ht9 hW9 => ⟨⟨_, rfl, _, rfl⟩, ht9.trans hHe⟩) (fun _ h9 => by rw [hlc] at h9; exact absurd h9 List.not_mem_nil) dX12_seenOf_85
  · have r_1994 : Rg 0 5 v_67 := Rg.lt_l (nle_lt c_1993) r_1988 r_1992 (by decide)
    have r_1995 : Rg 1 6 x_1990 := Rg.lt_r (nle_lt c_1993) r_1988 r_1992 (by decide)
    refine lv_iload_n hx hb dX12_seenOf_16 rfl (lv_at hl 1 rfl) ?_
    refine lv_iload_n hx hb dX12_seenOf_17 rfl (lv_at hl 3 rfl) ?_
    refine lv_i2l (v := Int32.toInt64 b) hx hb dX12_seenOf_18 rfl ?_
    refine lv_topl (fun x_2061 e_2062 => ?_)
    refine lv_aload_n hx hb dX12_seenOf_19 rfl (lv_at hl 2 rfl) ?_
    refine va_get (D := D) (ci := 10) (v := .ref msd) (C := "WrongHoleModel") (T := TX12) (N := 33) hx hb hts (iq_RX12 _) hown hK hP 0 rfl rfl 20 (by decide) (hT _ qq_5_172) (fun _ h9 => h9) rfl dX12_seenOf_20 ?_
    refine lv_bipush (v := 74) hx hb dX12_seenOf_23 (by decide) ?_
    refine lv_iconst (v := 3) hx hb dX12_seenOf_25 (by decide) ?_
    refine lv_iload hx hb dX12_seenOf_26 (lv_at hl 0 rfl) ?_
    refine lv_imul hx hb dX12_seenOf_28 ?_
    refine lv_topi (fun x_2063 e_2064 => ?_)
    have r_2065 : Rg 0 15 x_2063 := Rg.mul (ha := 3) (hb := 5) e_2064 (Rg.wk (lo2 := 0) (hi2 := 3) (Rg.c (c := 3) (k := 3) rfl) (by decide)) r_1994 (by decide)
    refine lv_iadd hx hb dX12_seenOf_29 ?_
    refine lv_topi (fun x_2066 e_2067 => ?_)
    have r_2068 : Rg 74 89 x_2066 := Rg.add e_2067 (Rg.c (c := 74) (k := 74) rfl) r_2065 (by decide)
    have hi_2069 : vp_in x_2066 133 := Rg.in r_2068 (by decide)
    refine va_iald hx hb hK hP 1 0 rfl rfl hi_2069 dX12_seenOf_30 ?_
    refine lv_topi (fun x_2070 e_2071 => ?_)
    refine lv_i2l (v := Int32.toInt64 x_2070) hx hb dX12_seenOf_31 rfl ?_
    refine lv_topl (fun x_2072 e_2073 => ?_)
    refine lv_aload_n hx hb dX12_seenOf_32 rfl (lv_at hl 2 rfl) ?_
    refine va_get (D := D) (ci := 10) (v := .ref msd) (C := "WrongHoleModel") (T := TX12) (N := 33) hx hb hts (iq_RX12 _) hown hK hP 0 rfl rfl 20 (by decide) (hT _ qq_5_172) (fun _ h9 => h9) rfl dX12_seenOf_33 ?_
    refine lv_bipush (v := 74) hx hb dX12_seenOf_36 (by decide) ?_
    refine lv_iconst (v := 3) hx hb dX12_seenOf_38 (by decide) ?_
    refine lv_iload hx hb dX12_seenOf_39 (lv_at hl 0 rfl) ?_
    refine lv_imul hx hb dX12_seenOf_41 ?_
    refine lv_topi (fun x_2074 e_2075 => ?_)
    have r_2076 : Rg 0 15 x_2074 := Rg.mul (ha := 3) (hb := 5) e_2075 (Rg.wk (lo2 := 0) (hi2 := 3) (Rg.c (c := 3) (k := 3) rfl) (by decide)) r_1994 (by decide)
    refine lv_iadd hx hb dX12_seenOf_42 ?_
    refine lv_topi (fun x_2077 e_2078 => ?_)
    have r_2079 : Rg 74 89 x_2077 := Rg.add e_2078 (Rg.c (c := 74) (k := 74) rfl) r_2076 (by decide)
    refine lv_iconst (v := 1) hx hb dX12_seenOf_43 (by decide) ?_
    refine lv_iadd hx hb dX12_seenOf_44 ?_
    refine lv_topi (fun x_2080 e_2081 => ?_)
    have r_2082 : Rg 75 90 x_2080 := Rg.add e_2081 r_2079 (Rg.c (c := 1) (k := 1) rfl) (by decide)
    have hi_2083 : vp_in x_2080 133 := Rg.in r_2082 (by decide)
    refine va_iald hx hb hK hP 1 0 rfl rfl hi_2083 dX12_seenOf_45 ?_
    refine lv_topi (fun x_2084 e_2085 => ?_)
    refine lv_i2l (v := Int32.toInt64 x_2084) hx hb dX12_seenOf_46 rfl ?_
    refine lv_topl (fun x_2086 e_2087 => ?_)
    have hPc := va_P.sub (ws' := []) hP [] rfl
    refine cl_P (W.runS (As := [.long x_2061, .long x_2072, .long x_2086]) (rest := [.int v_68]) ⟨hx, hb, hml, hown, hts⟩ (c_M_in l D cs x_2061 x_2072 x_2086) ⟨callB_of 3 hts (gd_C qq_6_97) rfl rfl rfl (hT _ qq_1_9) (hT _ qq_6_95) (by decide +kernel) (rm_R rfl rfl), (hT _ qq_6_96)⟩ (pq_S hPc hK hN) rfl rfl hl.1 rfl (lv_room (Nat.le_of_ble_eq_true rfl)) dX12_seenOf_47 ⟨Nat.le_of_ble_eq_true rfl, Nat.le_of_ble_eq_true rfl⟩) (fun v9 hz_2089 => ?_)
    obtain ⟨x_2088, rfl, r_2090⟩ := hz_2089
    refine w_cut (σ := (Int32)) (fun (v_2108 : Int32) H locs ls => Rg 0 1 v_2108 ∧ H = s.heap ∧ locs = [] ∧ va_P D vwCl [(m0, .inr (10, (.ref mtp :: .int sta :: .int sru :: .ref msg :: .ref mln :: .ref mcl :: .ref mcs :: .ref mrd :: .int snx :: .int swr :: .int snu :: .int ste :: .int sma :: .int sde :: .int sli :: .ref mop :: .int sod :: .ref mst :: .int sto :: .ref mwd :: .ref msd :: .int sx_ :: .ref mws :: .int sun :: .ref mfr :: .ref mqu :: .ref miw :: .int sfi :: .int swa :: .long sdx :: .ref mim :: .ref mix :: .ref mmd :: []))), (msd, .inl ((cs 0), 133, .inl gsd))] H ∧ lv_has ls 5 [(4, .int v_67), (3, .int v_68), (0, .ref m0), (1, .int b), (2, .int h)]) 76 (fun (v_2108 : Int32) => [.int v_2108, .int v_68]) ?_ (fun hj_2109 => ?_)
    · rintro v_2108 H locs ls ⟨r_2110, hHe, hlc, hP, hl⟩
      refine lv_iadd hx hb dX12_seenOf_76 ?_
      refine lv_topi (fun x_2111 e_2112 => ?_)
      refine lv_istore_n (lv' := [(3, .int x_2111), (4, .int v_67), (0, .ref m0), (1, .int b), (2, .int h)]) hx hb dX12_seenOf_77 rfl hl (by decide) rfl (fun ls hl => ?_)
      obtain ⟨x_2113, e_2114⟩ : ∃ z : Int32, z = v_67 + Int32.ofInt 1 := ⟨_, rfl⟩
      have r_2115 : Rg 1 6 x_2113 := Rg.add e_2114 r_1994 (Rg.c (c := Int32.ofInt 1) (k := 1) rfl) (by decide)
      refine lv_iinc (v := x_2113) (lv' := [(4, .int x_2113), (3, .int x_2111), (0, .ref m0), (1, .int b), (2, .int h)]) hx hb dX12_seenOf_78 hl (k := 1) rfl (e_2114.symm) (by decide) rfl (fun ls hl => ?_)
      refine lv_goto (tgt := 5) hx hb dX12_seenOf_81 (by decide) ?_
      exact ih_1987 (x_2113, x_2111) _ _ _ ⟨(Rg.wk (lo2 := 0) (hi2 := 6) r_2115 (by decide)), hHe, hlc, hP, lv_sub hl [0, 1, 2, 3, 4] rfl⟩ (ms_up e_2114 r_1994 (Rg.c (c := Int32.ofInt 1) (k := 1) rfl) (by decide))
    · refine lv_if_eq (tgt := 75) hx hb dX12_seenOf_50 (by decide) (fun c_2091 => ?_) (fun c_2091 => ?_)
      · have r_2092 : Rg 0 0 x_2088 := Rg.eq_l c_2091 r_2090.1 (Rg.c (c := 0) (k := 0) rfl) (by decide)
        refine lv_iconst (v := 0) hx hb dX12_seenOf_75 (by decide) ?_
        exact hj_2109 0 _ _ _ ⟨(Rg.wk (lo2 := 0) (hi2 := 1) (Rg.c (c := 0) (k := 0) rfl) (by decide)), hHe, hlc, hP, lv_sub hl [0, 1, 2, 3, 4] rfl⟩
      · have r_2093 : Rg 1 1 x_2088 := Rg.ne c_2091 r_2090.1 (Rg.c (c := 0) (k := 0) rfl) (by decide)
        refine lv_aload_n hx hb dX12_seenOf_53 rfl (lv_at hl 2 rfl) ?_
        refine va_get (D := D) (ci := 10) (v := .ref msd) (C := "WrongHoleModel") (T := TX12) (N := 33) hx hb hts (iq_RX12 _) hown hK hP 0 rfl rfl 20 (by decide) (hT _ qq_5_172) (fun _ h9 => h9) rfl dX12_seenOf_54 ?_
        refine lv_bipush (v := 74) hx hb dX12_seenOf_57 (by decide) ?_
        refine lv_iconst (v := 3) hx hb dX12_seenOf_59 (by decide) ?_
        refine lv_iload hx hb dX12_seenOf_60 (lv_at hl 0 rfl) ?_
        refine lv_imul hx hb dX12_seenOf_62 ?_
        refine lv_topi (fun x_2116 e_2117 => ?_)
        have r_2118 : Rg 0 15 x_2116 := Rg.mul (ha := 3) (hb := 5) e_2117 (Rg.wk (lo2 := 0) (hi2 := 3) (Rg.c (c := 3) (k := 3) rfl) (by decide)) r_1994 (by decide)
        refine lv_iadd hx hb dX12_seenOf_63 ?_
        refine lv_topi (fun x_2119 e_2120 => ?_)
        have r_2121 : Rg 74 89 x_2119 := Rg.add e_2120 (Rg.c (c := 74) (k := 74) rfl) r_2118 (by decide)
        refine lv_iconst (v := 2) hx hb dX12_seenOf_64 (by decide) ?_
        refine lv_iadd hx hb dX12_seenOf_65 ?_
        refine lv_topi (fun x_2122 e_2123 => ?_)
        have r_2124 : Rg 76 91 x_2122 := Rg.add e_2123 r_2121 (Rg.c (c := 2) (k := 2) rfl) (by decide)
        have hi_2125 : vp_in x_2122 133 := Rg.in r_2124 (by decide)
        refine va_iald hx hb hK hP 1 0 rfl rfl hi_2125 dX12_seenOf_66 ?_
        refine lv_topi (fun x_2126 e_2127 => ?_)
        refine lv_iload_n hx hb dX12_seenOf_67 rfl (lv_at hl 4 rfl) ?_
        refine lv_icmp_gt (tgt := 75) hx hb dX12_seenOf_68 (by decide) (fun c_2128 => ?_) (fun c_2128 => ?_)
        · have r_2129 : Rg (-2147483648) 2147483646 h := Rg.lt_l c_2128 (Rg.top h) (Rg.top x_2126) (by decide)
          have r_2130 : Rg (-2147483647) 2147483647 x_2126 := Rg.lt_r c_2128 (Rg.top h) (Rg.top x_2126) (by decide)
          refine lv_iconst (v := 0) hx hb dX12_seenOf_75 (by decide) ?_
          exact hj_2109 0 _ _ _ ⟨(Rg.wk (lo2 := 0) (hi2 := 1) (Rg.c (c := 0) (k := 0) rfl) (by decide)), hHe, hlc, hP, lv_sub hl [0, 1, 2, 3, 4] rfl⟩
        · refine lv_iconst (v := 1) hx hb dX12_seenOf_71 (by decide) ?_
          refine lv_goto (tgt := 76) hx hb dX12_seenOf_72 (by decide) ?_
          exact hj_2109 1 _ _ _ ⟨(Rg.wk (lo2 := 0) (hi2 := 1) (Rg.c (c := 1) (k := 1) rfl) (by decide)), hHe, hlc, hP, lv_sub hl [0, 1, 2, 3, 4] rfl⟩
theorem dX12_shownIn_0 : decode cX12_shownIn 0 = .ok (.iconst 0, 1) := by decide +kernel
theorem dX12_shownIn_1 : decode cX12_shownIn 1 = .ok (.istore_n 3, 1) := by decide +kernel
theorem dX12_shownIn_2 : decode cX12_shownIn 2 = .ok (.aload_n 0, 1) := by decide +kernel
theorem dX12_shownIn_3 : decode cX12_shownIn 3 = .ok (.iload_n 1, 1) := by decide +kernel
theorem dX12_shownIn_4 : decode cX12_shownIn 4 = .ok (.invokevirtual 353, 3) := by decide +kernel
theorem dX12_shownIn_7 : decode cX12_shownIn 7 = .ok (.aload_n 0, 1) := by decide +kernel
theorem dX12_shownIn_8 : decode cX12_shownIn 8 = .ok (.iload_n 1, 1) := by decide +kernel
theorem dX12_shownIn_9 : decode cX12_shownIn 9 = .ok (.invokevirtual 387, 3) := by decide +kernel
theorem qq_7_65 : Cond.code yX12_wrongIn cX12_wrongIn 2 (some .int) ∈ TB := mk_tb (ti_7 (List.mem_of_getElem? (i := 65) rfl)) rfl
theorem qq_7_62 : Cond.methodLink "WrongHoleModel" 387 yX12_wrongIn ∈ TB := mk_tb (ti_7 (List.mem_of_getElem? (i := 62) rfl)) rfl
theorem qq_7_64 : Cond.instanceMethod yX12_wrongIn ∈ TB := mk_tb (ti_7 (List.mem_of_getElem? (i := 64) rfl)) rfl
theorem qs_5_5 : Cond.selects "WrongHoleModel" yX12_wrongIn yX12_wrongIn ∈ TB := mk_tb (ti_s (q := (yX12_wrongIn, 33)) (List.mem_append_right _ (List.mem_append_right _ (List.mem_append_right _ (List.mem_append_right _ (List.mem_append_right _ (List.mem_append_left _ (List.mem_of_getElem? (i := 5) rfl)))))))) rfl
theorem dX12_shownIn_12 : decode cX12_shownIn 12 = .ok (.ior, 1) := by decide +kernel
theorem dX12_shownIn_13 : decode cX12_shownIn 13 = .ok (.istore 4, 2) := by decide +kernel
theorem dX12_shownIn_15 : decode cX12_shownIn 15 = .ok (.iconst 0, 1) := by decide +kernel
theorem dX12_shownIn_16 : decode cX12_shownIn 16 = .ok (.istore 5, 2) := by decide +kernel
theorem dX12_shownIn_18 : decode cX12_shownIn 18 = .ok (.iload 5, 2) := by decide +kernel
theorem dX12_shownIn_20 : decode cX12_shownIn 20 = .ok (.aload_n 0, 1) := by decide +kernel
theorem dX12_shownIn_21 : decode cX12_shownIn 21 = .ok (.getfield 39, 3) := by decide +kernel
theorem dX12_shownIn_24 : decode cX12_shownIn 24 = .ok (.iconst 0, 1) := by decide +kernel
theorem dX12_shownIn_25 : decode cX12_shownIn 25 = .ok (.iaload, 1) := by decide +kernel
theorem dX12_shownIn_26 : decode cX12_shownIn 26 = .ok (.if_icmp .ge 33, 3) := by decide +kernel
theorem dX12_shownIn_59 : decode cX12_shownIn 59 = .ok (.iload_n 3, 1) := by decide +kernel
theorem dX12_shownIn_60 : decode cX12_shownIn 60 = .ok (.ireturn, 1) := by decide +kernel
theorem dX12_shownIn_29 : decode cX12_shownIn 29 = .ok (.iload_n 3, 1) := by decide +kernel
theorem dX12_shownIn_30 : decode cX12_shownIn 30 = .ok (.iload 4, 2) := by decide +kernel
theorem dX12_shownIn_32 : decode cX12_shownIn 32 = .ok (.iload 5, 2) := by decide +kernel
theorem dX12_shownIn_34 : decode cX12_shownIn 34 = .ok (.invokestatic 332, 3) := by decide +kernel
theorem dX12_shownIn_37 : decode cX12_shownIn 37 = .ok (.ifCond .eq 13, 3) := by decide +kernel
theorem dX12_shownIn_51 : decode cX12_shownIn 51 = .ok (.iadd, 1) := by decide +kernel
theorem dX12_shownIn_52 : decode cX12_shownIn 52 = .ok (.istore_n 3, 1) := by decide +kernel
theorem dX12_shownIn_53 : decode cX12_shownIn 53 = .ok (.iinc 5 1, 3) := by decide +kernel
theorem dX12_shownIn_56 : decode cX12_shownIn 56 = .ok (.goto (-38), 3) := by decide +kernel
theorem dX12_shownIn_50 : decode cX12_shownIn 50 = .ok (.iconst 0, 1) := by decide +kernel
theorem dX12_shownIn_40 : decode cX12_shownIn 40 = .ok (.aload_n 0, 1) := by decide +kernel
theorem dX12_shownIn_41 : decode cX12_shownIn 41 = .ok (.iload 5, 2) := by decide +kernel
theorem dX12_shownIn_43 : decode cX12_shownIn 43 = .ok (.iload_n 2, 1) := by decide +kernel
theorem dX12_shownIn_44 : decode cX12_shownIn 44 = .ok (.invokevirtual 390, 3) := by decide +kernel
theorem qq_7_17 : Cond.code yX12_seenOf cX12_seenOf 5 (some .int) ∈ TB := mk_tb (ti_7 (List.mem_of_getElem? (i := 17) rfl)) rfl
theorem qq_7_14 : Cond.methodLink "WrongHoleModel" 390 yX12_seenOf ∈ TB := mk_tb (ti_7 (List.mem_of_getElem? (i := 14) rfl)) rfl
theorem qq_7_16 : Cond.instanceMethod yX12_seenOf ∈ TB := mk_tb (ti_7 (List.mem_of_getElem? (i := 16) rfl)) rfl
theorem qs_4_13 : Cond.selects "WrongHoleModel" yX12_seenOf yX12_seenOf ∈ TB := mk_tb (ti_s (q := (yX12_seenOf, 33)) (List.mem_append_right _ (List.mem_append_right _ (List.mem_append_right _ (List.mem_append_right _ (List.mem_append_left _ (List.mem_of_getElem? (i := 13) rfl))))))) rfl
theorem dX12_shownIn_47 : decode cX12_shownIn 47 = .ok (.goto 4, 3) := by decide +kernel
set_option maxHeartbeats 4000000 in
set_option maxRecDepth 100000 in
theorem c_M_shownIn (l : Launch) (D : va_G) (cs : Nat → ClassId) (m0 : Nat) (mtp : Nat) (sta : Int32) (sru : Int32) (msg : Nat) (mln : Nat) (mcl : Nat) (mcs : Nat) (mrd : Nat) (snx : Int32) (swr : Int32) (snu : Int32) (ste : Int32) (sma : Int32) (sde : Int32) (sli : Int32) (mop : Nat) (sod : Int32) (mst : Nat) (sto : Int32) (mwd : Nat) (msd : Nat) (sx_ : Int32) (mws : Nat) (sun : Int32) (mfr : Nat) (mqu : Nat) (miw : Nat) (sfi : Int32) (swa : Int32) (sdx : Int64) (mim : Nat) (mix : Nat) (mmd : Nat) (gsd : Nat → Int32) (a : Int32) (b : Int32) (hsi : SI gsd) (hbk : BK a) : Met l yX12_shownIn (Cond.code yX12_shownIn cX12_shownIn 6 (some .int) :: TB) (RM 5 0 0) (va_Pc [.ref m0, .int a, .int b] (PRR D cs [(m0, .inr (10, (.ref mtp :: .int sta :: .int sru :: .ref msg :: .ref mln :: .ref mcl :: .ref mcs :: .ref mrd :: .int snx :: .int swr :: .int snu :: .int ste :: .int sma :: .int sde :: .int sli :: .ref mop :: .int sod :: .ref mst :: .int sto :: .ref mwd :: .ref msd :: .int sx_ :: .ref mws :: .int sun :: .ref mfr :: .ref mqu :: .ref miw :: .int sfi :: .int swa :: .long sdx :: .ref mim :: .ref mix :: .ref mmd :: []))), (msd, .inl ((cs 0), 133, .inl gsd))])) (QP (fun v => ∃ x : Int32, v = .int x)) 0 0 (fun _ => False) := by
  refine MER (y := yX12_shownIn) (cc := cX12_shownIn) (maxL := 6) (ret := (some .int)) (d := 5) (D := D) (cs := cs) (ws := [(m0, .inr (10, (.ref mtp :: .int sta :: .int sru :: .ref msg :: .ref mln :: .ref mcl :: .ref mcs :: .ref mrd :: .int snx :: .int swr :: .int snu :: .int ste :: .int sma :: .int sde :: .int sli :: .ref mop :: .int sod :: .ref mst :: .int sto :: .ref mwd :: .ref msd :: .int sx_ :: .ref mws :: .int sun :: .ref mfr :: .ref mqu :: .ref miw :: .int sfi :: .int swa :: .long sdx :: .ref mim :: .ref mix :: .ref mmd :: []))), (msd, .inl ((cs 0), 133, .inl gsd))]) (av := [.ref m0, .int a, .int b]) (Qc := QP (fun v => ∃ x : Int32, v = .int x)) (by decide) (Nat.le_of_ble_eq_true rfl) ?_
  intro p e s m below meth c ls H hHe hx hb hr hml hown hts hlocks hP hK hN hl
  obtain ⟨locs, hlc⟩ : ∃ z : List Loc, z = [] := ⟨_, rfl⟩
  rw [← hlc]
  have hown : s.vm.findClass "WrongHoleModel" = some m.cls := hown
  have hT : ∀ w ∈ TB, w.before ([.ref m0, .int a, .int b] : List Value).toArray s = true := fun w h => hts w (List.mem_cons_of_mem _ h)
  have hl : lv_has ls 6 [(0, .ref m0), (1, .int a), (2, .int b)] := hl
  have hP : va_P D vwCl [(m0, .inr (10, (.ref mtp :: .int sta :: .int sru :: .ref msg :: .ref mln :: .ref mcl :: .ref mcs :: .ref mrd :: .int snx :: .int swr :: .int snu :: .int ste :: .int sma :: .int sde :: .int sli :: .ref mop :: .int sod :: .ref mst :: .int sto :: .ref mwd :: .ref msd :: .int sx_ :: .ref mws :: .int sun :: .ref mfr :: .ref mqu :: .ref miw :: .int sfi :: .int swa :: .long sdx :: .ref mim :: .ref mix :: .ref mmd :: []))), (msd, .inl ((cs 0), 133, .inl gsd))] H := hP
  refine lv_iconst (v := 0) hx hb dX12_shownIn_0 (by decide) ?_
  refine lv_istore_n (lv' := [(3, .int 0), (0, .ref m0), (1, .int a), (2, .int b)]) hx hb dX12_shownIn_1 rfl hl (by decide) rfl (fun ls hl => ?_)
  refine lv_aload_n hx hb dX12_shownIn_2 rfl (lv_at hl 1 rfl) ?_
  refine lv_iload_n hx hb dX12_shownIn_3 rfl (lv_at hl 2 rfl) ?_
  have hPc := va_P.sub (ws' := [(m0, .inr (10, (.ref mtp :: .int sta :: .int sru :: .ref msg :: .ref mln :: .ref mcl :: .ref mcs :: .ref mrd :: .int snx :: .int swr :: .int snu :: .int ste :: .int sma :: .int sde :: .int sli :: .ref mop :: .int sod :: .ref mst :: .int sto :: .ref mwd :: .ref msd :: .int sx_ :: .ref mws :: .int sun :: .ref mfr :: .ref mqu :: .ref miw :: .int sfi :: .int swa :: .long sdx :: .ref mim :: .ref mix :: .ref mmd :: []))), (msd, .inl ((cs 0), 133, .inl gsd))]) hP [0, 1] rfl
  refine cl_V (W.runV (As := [.int a]) (rest := []) ⟨hx, hb, hml, hown, hts⟩ (c_M_openIn l D cs m0 mtp sta sru msg mln mcl mcs mrd snx swr snu ste sma sde sli mop sod mst sto mwd msd sx_ mws sun mfr mqu miw sfi swa sdx mim mix mmd gsd a hsi hbk.1) ⟨callB_of 1 hts (gd_C qq_7_55) rfl rfl rfl (hT _ qq_1_9) (hT _ qq_7_52) (by decide +kernel) (rm_R rfl rfl), (hT _ qq_7_54), (hT _ qs_5_4)⟩ (pq_V hPc hK hN (ci := 10) (q0 := 0) rfl rfl) rfl rfl hl.1 rfl (lv_room (Nat.le_of_ble_eq_true rfl)) dX12_shownIn_4 ⟨Nat.le_of_ble_eq_true rfl, Nat.le_of_ble_eq_true rfl⟩) ?_
  refine lv_topi (fun x_1 e_2 => ?_)
  have r_3 : Rg 0 255 x_1 := Rg.of e_2 (op_rg (hsi) _)
  refine lv_aload_n hx hb dX12_shownIn_7 rfl (lv_at hl 1 rfl) ?_
  refine lv_iload_n hx hb dX12_shownIn_8 rfl (lv_at hl 2 rfl) ?_
  have hPc := va_P.sub (ws' := [(m0, .inr (10, (.ref mtp :: .int sta :: .int sru :: .ref msg :: .ref mln :: .ref mcl :: .ref mcs :: .ref mrd :: .int snx :: .int swr :: .int snu :: .int ste :: .int sma :: .int sde :: .int sli :: .ref mop :: .int sod :: .ref mst :: .int sto :: .ref mwd :: .ref msd :: .int sx_ :: .ref mws :: .int sun :: .ref mfr :: .ref mqu :: .ref miw :: .int sfi :: .int swa :: .long sdx :: .ref mim :: .ref mix :: .ref mmd :: []))), (msd, .inl ((cs 0), 133, .inl gsd))]) hP [0, 1] rfl
  refine cl_P (W.runV (As := [.int a]) (rest := [.int x_1]) ⟨hx, hb, hml, hown, hts⟩ (c_M_wrongIn l D cs m0 mtp sta sru msg mln mcl mcs mrd snx swr snu ste sma sde sli mop sod mst sto mwd msd sx_ mws sun mfr mqu miw sfi swa sdx mim mix mmd gsd a hsi hbk) ⟨callB_of 1 hts (gd_C qq_7_65) rfl rfl rfl (hT _ qq_1_9) (hT _ qq_7_62) (by decide +kernel) (rm_R rfl rfl), (hT _ qq_7_64), (hT _ qs_5_5)⟩ (pq_V hPc hK hN (ci := 10) (q0 := 0) rfl rfl) rfl rfl hl.1 rfl (lv_room (Nat.le_of_ble_eq_true rfl)) dX12_shownIn_9 ⟨Nat.le_of_ble_eq_true rfl, Nat.le_of_ble_eq_true rfl⟩) (fun v9 hz_5 => ?_)
  obtain ⟨x_4, rfl, r_6⟩ := hz_5
  refine lv_ior hx hb dX12_shownIn_12 ?_
  refine lv_topi (fun x_7 e_8 => ?_)
  have r_9 : Rg 0 255 x_7 := Rg.or (k := 8) e_8 r_3 r_6 (by decide) (by decide)
  refine lv_istore (lv' := [(4, .int x_7), (3, .int 0), (0, .ref m0), (1, .int a), (2, .int b)]) hx hb dX12_shownIn_13 hl (by decide) rfl (fun ls hl => ?_)
  refine lv_iconst (v := 0) hx hb dX12_shownIn_15 (by decide) ?_
  refine lv_istore (lv' := [(5, .int 0), (4, .int x_7), (3, .int 0), (0, .ref m0), (1, .int a), (2, .int b)]) hx hb dX12_shownIn_16 hl (by decide) rfl (fun ls hl => ?_)
  refine w_wh (σ := (Int32) × (Int32)) (fun x9 H locs ls => match x9 with | (v_46, v_47) => Rg 0 8 v_46 ∧ H = s.heap ∧ locs = [] ∧ va_P D vwCl [(m0, .inr (10, (.ref mtp :: .int sta :: .int sru :: .ref msg :: .ref mln :: .ref mcl :: .ref mcs :: .ref mrd :: .int snx :: .int swr :: .int snu :: .int ste :: .int sma :: .int sde :: .int sli :: .ref mop :: .int sod :: .ref mst :: .int sto :: .ref mwd :: .ref msd :: .int sx_ :: .ref mws :: .int sun :: .ref mfr :: .ref mqu :: .ref miw :: .int sfi :: .int swa :: .long sdx :: .ref mim :: .ref mix :: .ref mmd :: []))), (msd, .inl ((cs 0), 133, .inl gsd))] H ∧ lv_has ls 6 [(5, .int v_46), (4, .int x_7), (3, .int v_47), (0, .ref m0), (1, .int a), (2, .int b)]) (fun x9 => match x9 with | (v_46, v_47) => (8 - Int32.toInt v_46).toNat) 18 ?_ (0, 0) H locs ls ⟨(Rg.wk (lo2 := 0) (hi2 := 8) (Rg.c (c := 0) (k := 0) rfl) (by decide)), hHe, hlc, hP, lv_sub hl [0, 1, 2, 3, 4, 5] rfl⟩
  rintro ⟨v_46, v_47⟩ H locs ls ⟨r_343, hHe, hlc, hP, hl⟩ ih_342
  refine lv_iload hx hb dX12_shownIn_18 (lv_at hl 0 rfl) ?_
  refine lv_aload_n hx hb dX12_shownIn_20 rfl (lv_at hl 3 rfl) ?_
  refine va_get (D := D) (ci := 10) (v := .ref msd) (C := "WrongHoleModel") (T := TX12) (N := 33) hx hb hts (iq_RX12 _) hown hK hP 0 rfl rfl 20 (by decide) (hT _ qq_5_172) (fun _ h9 => h9) rfl dX12_shownIn_21 ?_
  refine lv_iconst (v := 0) hx hb dX12_shownIn_24 (by decide) ?_
  have hi_344 : vp_in 0 133 := vi_c rfl
  refine va_iald hx hb hK hP 1 0 rfl rfl hi_344 dX12_shownIn_25 ?_
  refine lv_topi (fun x_345 e_346 => ?_)
  have r_347 : Rg 0 8 x_345 := Rg.of e_346 (hsi.a0)
  refine lv_icmp_ge (tgt := 59) hx hb dX12_shownIn_26 (by decide) (fun c_348 => ?_) (fun c_348 => ?_)
  · refine lv_iload_n hx hb dX12_shownIn_59 rfl (lv_at hl 2 rfl) ?_
    exact W.iret (v := v_47) hx hb hr (fun t9 ht9 hW9 => ⟨⟨_, rfl, _, rfl⟩, ht9.trans hHe⟩) (fun _ h9 => by rw [hlc] at h9; exact absurd h9 List.not_mem_nil) dX12_shownIn_60
  · have r_349 : Rg 0 7 v_46 := Rg.lt_l (nle_lt c_348) r_343 r_347 (by decide)
    have r_350 : Rg 1 8 x_345 := Rg.lt_r (nle_lt c_348) r_343 r_347 (by decide)
    refine lv_iload_n hx hb dX12_shownIn_29 rfl (lv_at hl 2 rfl) ?_
    refine lv_iload hx hb dX12_shownIn_30 (lv_at hl 1 rfl) ?_
    refine lv_iload hx hb dX12_shownIn_32 (lv_at hl 0 rfl) ?_
    have hPc := va_P.sub (ws' := []) hP [] rfl
    refine cl_V (W.runS (As := [.int x_7, .int v_46]) (rest := [.int v_47]) ⟨hx, hb, hml, hown, hts⟩ (c_M_isOf l D cs x_7 v_46 r_9 r_349) ⟨callB_of 2 hts (gd_C qq_7_72) rfl rfl rfl (hT _ qq_1_9) (hT _ qq_7_70) (by decide +kernel) (rm_R rfl rfl), (hT _ qq_7_71)⟩ (pq_S hPc hK hN) rfl rfl hl.1 rfl (lv_room (Nat.le_of_ble_eq_true rfl)) dX12_shownIn_34 ⟨Nat.le_of_ble_eq_true rfl, Nat.le_of_ble_eq_true rfl⟩) ?_
    refine lv_topi (fun x_369 e_370 => ?_)
    have r_371 : Rg 0 1 x_369 := Rg.of e_370 (bt_rg _ _)
    refine w_cut (σ := (Int32)) (fun (v_378 : Int32) H locs ls => H = s.heap ∧ locs = [] ∧ va_P D vwCl [(m0, .inr (10, (.ref mtp :: .int sta :: .int sru :: .ref msg :: .ref mln :: .ref mcl :: .ref mcs :: .ref mrd :: .int snx :: .int swr :: .int snu :: .int ste :: .int sma :: .int sde :: .int sli :: .ref mop :: .int sod :: .ref mst :: .int sto :: .ref mwd :: .ref msd :: .int sx_ :: .ref mws :: .int sun :: .ref mfr :: .ref mqu :: .ref miw :: .int sfi :: .int swa :: .long sdx :: .ref mim :: .ref mix :: .ref mmd :: []))), (msd, .inl ((cs 0), 133, .inl gsd))] H ∧ lv_has ls 6 [(5, .int v_46), (4, .int x_7), (3, .int v_47), (0, .ref m0), (1, .int a), (2, .int b)]) 51 (fun (v_378 : Int32) => [.int v_378, .int v_47]) ?_ (fun hj_379 => ?_)
    · rintro v_378 H locs ls ⟨hHe, hlc, hP, hl⟩
      refine lv_iadd hx hb dX12_shownIn_51 ?_
      refine lv_topi (fun x_380 e_381 => ?_)
      refine lv_istore_n (lv' := [(3, .int x_380), (5, .int v_46), (4, .int x_7), (0, .ref m0), (1, .int a), (2, .int b)]) hx hb dX12_shownIn_52 rfl hl (by decide) rfl (fun ls hl => ?_)
      obtain ⟨x_382, e_383⟩ : ∃ z : Int32, z = v_46 + Int32.ofInt 1 := ⟨_, rfl⟩
      have r_384 : Rg 1 8 x_382 := Rg.add e_383 r_349 (Rg.c (c := Int32.ofInt 1) (k := 1) rfl) (by decide)
      refine lv_iinc (v := x_382) (lv' := [(5, .int x_382), (3, .int x_380), (4, .int x_7), (0, .ref m0), (1, .int a), (2, .int b)]) hx hb dX12_shownIn_53 hl (k := 1) rfl (e_383.symm) (by decide) rfl (fun ls hl => ?_)
      refine lv_goto (tgt := 18) hx hb dX12_shownIn_56 (by decide) ?_
      exact ih_342 (x_382, x_380) _ _ _ ⟨(Rg.wk (lo2 := 0) (hi2 := 8) r_384 (by decide)), hHe, hlc, hP, lv_sub hl [0, 2, 1, 3, 4, 5] rfl⟩ (ms_up e_383 r_349 (Rg.c (c := Int32.ofInt 1) (k := 1) rfl) (by decide))
    · refine lv_if_eq (tgt := 50) hx hb dX12_shownIn_37 (by decide) (fun c_372 => ?_) (fun c_372 => ?_)
      · have r_373 : Rg 0 0 x_369 := Rg.eq_l c_372 r_371 (Rg.c (c := 0) (k := 0) rfl) (by decide)
        refine lv_iconst (v := 0) hx hb dX12_shownIn_50 (by decide) ?_
        exact hj_379 0 _ _ _ ⟨hHe, hlc, hP, lv_sub hl [0, 1, 2, 3, 4, 5] rfl⟩
      · have r_374 : Rg 1 1 x_369 := Rg.ne c_372 r_371 (Rg.c (c := 0) (k := 0) rfl) (by decide)
        refine lv_aload_n hx hb dX12_shownIn_40 rfl (lv_at hl 3 rfl) ?_
        refine lv_iload hx hb dX12_shownIn_41 (lv_at hl 0 rfl) ?_
        refine lv_iload_n hx hb dX12_shownIn_43 rfl (lv_at hl 5 rfl) ?_
        have hPc := va_P.sub (ws' := [(m0, .inr (10, (.ref mtp :: .int sta :: .int sru :: .ref msg :: .ref mln :: .ref mcl :: .ref mcs :: .ref mrd :: .int snx :: .int swr :: .int snu :: .int ste :: .int sma :: .int sde :: .int sli :: .ref mop :: .int sod :: .ref mst :: .int sto :: .ref mwd :: .ref msd :: .int sx_ :: .ref mws :: .int sun :: .ref mfr :: .ref mqu :: .ref miw :: .int sfi :: .int swa :: .long sdx :: .ref mim :: .ref mix :: .ref mmd :: []))), (msd, .inl ((cs 0), 133, .inl gsd))]) hP [0, 1] rfl
        refine cl_P (W.runV (As := [.int v_46, .int b]) (rest := [.int v_47]) ⟨hx, hb, hml, hown, hts⟩ (c_M_seenOf l D cs m0 mtp sta sru msg mln mcl mcs mrd snx swr snu ste sma sde sli mop sod mst sto mwd msd sx_ mws sun mfr mqu miw sfi swa sdx mim mix mmd gsd v_46 b hsi) ⟨callB_of 2 hts (gd_C qq_7_17) rfl rfl rfl (hT _ qq_1_9) (hT _ qq_7_14) (by decide +kernel) (rm_R rfl rfl), (hT _ qq_7_16), (hT _ qs_4_13)⟩ (pq_V hPc hK hN (ci := 10) (q0 := 0) rfl rfl) rfl rfl hl.1 rfl (lv_room (Nat.le_of_ble_eq_true rfl)) dX12_shownIn_44 ⟨Nat.le_of_ble_eq_true rfl, Nat.le_of_ble_eq_true rfl⟩) (fun v9 hz_386 => ?_)
        obtain ⟨x_385, rfl⟩ := hz_386
        refine lv_goto (tgt := 51) hx hb dX12_shownIn_47 (by decide) ?_
        exact hj_379 x_385 _ _ _ ⟨hHe, hlc, hP, lv_sub hl [0, 1, 2, 3, 4, 5] rfl⟩
theorem dX12_worthIn_0 : decode cX12_worthIn 0 = .ok (.iconst 0, 1) := by decide +kernel
theorem dX12_worthIn_1 : decode cX12_worthIn 1 = .ok (.istore_n 2, 1) := by decide +kernel
theorem dX12_worthIn_2 : decode cX12_worthIn 2 = .ok (.aload_n 0, 1) := by decide +kernel
theorem dX12_worthIn_3 : decode cX12_worthIn 3 = .ok (.iload_n 1, 1) := by decide +kernel
theorem dX12_worthIn_4 : decode cX12_worthIn 4 = .ok (.invokevirtual 356, 3) := by decide +kernel
theorem dX12_worthIn_7 : decode cX12_worthIn 7 = .ok (.istore_n 3, 1) := by decide +kernel
theorem dX12_worthIn_8 : decode cX12_worthIn 8 = .ok (.iconst 0, 1) := by decide +kernel
theorem dX12_worthIn_9 : decode cX12_worthIn 9 = .ok (.istore 4, 2) := by decide +kernel
theorem dX12_worthIn_11 : decode cX12_worthIn 11 = .ok (.iload 4, 2) := by decide +kernel
theorem dX12_worthIn_13 : decode cX12_worthIn 13 = .ok (.aload_n 0, 1) := by decide +kernel
theorem dX12_worthIn_14 : decode cX12_worthIn 14 = .ok (.getfield 39, 3) := by decide +kernel
theorem dX12_worthIn_17 : decode cX12_worthIn 17 = .ok (.iconst 0, 1) := by decide +kernel
theorem dX12_worthIn_18 : decode cX12_worthIn 18 = .ok (.iaload, 1) := by decide +kernel
theorem dX12_worthIn_19 : decode cX12_worthIn 19 = .ok (.if_icmp .ge 32, 3) := by decide +kernel
theorem dX12_worthIn_51 : decode cX12_worthIn 51 = .ok (.iload_n 2, 1) := by decide +kernel
theorem dX12_worthIn_52 : decode cX12_worthIn 52 = .ok (.ireturn, 1) := by decide +kernel
theorem dX12_worthIn_22 : decode cX12_worthIn 22 = .ok (.iload_n 2, 1) := by decide +kernel
theorem dX12_worthIn_23 : decode cX12_worthIn 23 = .ok (.iload_n 3, 1) := by decide +kernel
theorem dX12_worthIn_24 : decode cX12_worthIn 24 = .ok (.iload 4, 2) := by decide +kernel
theorem dX12_worthIn_26 : decode cX12_worthIn 26 = .ok (.invokestatic 332, 3) := by decide +kernel
theorem dX12_worthIn_29 : decode cX12_worthIn 29 = .ok (.ifCond .eq 13, 3) := by decide +kernel
theorem dX12_worthIn_43 : decode cX12_worthIn 43 = .ok (.iadd, 1) := by decide +kernel
theorem dX12_worthIn_44 : decode cX12_worthIn 44 = .ok (.istore_n 2, 1) := by decide +kernel
theorem dX12_worthIn_45 : decode cX12_worthIn 45 = .ok (.iinc 4 1, 3) := by decide +kernel
theorem dX12_worthIn_48 : decode cX12_worthIn 48 = .ok (.goto (-37), 3) := by decide +kernel
theorem dX12_worthIn_42 : decode cX12_worthIn 42 = .ok (.iconst 0, 1) := by decide +kernel
theorem dX12_worthIn_32 : decode cX12_worthIn 32 = .ok (.aload_n 0, 1) := by decide +kernel
theorem dX12_worthIn_33 : decode cX12_worthIn 33 = .ok (.iload 4, 2) := by decide +kernel
theorem dX12_worthIn_35 : decode cX12_worthIn 35 = .ok (.iconst 4, 1) := by decide +kernel
theorem dX12_worthIn_36 : decode cX12_worthIn 36 = .ok (.invokevirtual 319, 3) := by decide +kernel
theorem dX12_worthIn_39 : decode cX12_worthIn 39 = .ok (.goto 4, 3) := by decide +kernel
set_option maxHeartbeats 4000000 in
set_option maxRecDepth 100000 in
theorem c_M_worthIn (l : Launch) (D : va_G) (cs : Nat → ClassId) (m0 : Nat) (mtp : Nat) (sta : Int32) (sru : Int32) (msg : Nat) (mln : Nat) (mcl : Nat) (mcs : Nat) (mrd : Nat) (snx : Int32) (swr : Int32) (snu : Int32) (ste : Int32) (sma : Int32) (sde : Int32) (sli : Int32) (mop : Nat) (sod : Int32) (mst : Nat) (sto : Int32) (mwd : Nat) (msd : Nat) (sx_ : Int32) (mws : Nat) (sun : Int32) (mfr : Nat) (mqu : Nat) (miw : Nat) (sfi : Int32) (swa : Int32) (sdx : Int64) (mim : Nat) (mix : Nat) (mmd : Nat) (gsd : Nat → Int32) (a : Int32) (hsi : SI gsd) (hbk : BK a) : Met l yX12_worthIn (Cond.code yX12_worthIn cX12_worthIn 5 (some .int) :: TB) (RM 4 0 0) (va_Pc [.ref m0, .int a] (PRR D cs [(m0, .inr (10, (.ref mtp :: .int sta :: .int sru :: .ref msg :: .ref mln :: .ref mcl :: .ref mcs :: .ref mrd :: .int snx :: .int swr :: .int snu :: .int ste :: .int sma :: .int sde :: .int sli :: .ref mop :: .int sod :: .ref mst :: .int sto :: .ref mwd :: .ref msd :: .int sx_ :: .ref mws :: .int sun :: .ref mfr :: .ref mqu :: .ref miw :: .int sfi :: .int swa :: .long sdx :: .ref mim :: .ref mix :: .ref mmd :: []))), (msd, .inl ((cs 0), 133, .inl gsd))])) (QP (fun v => ∃ x : Int32, v = .int x)) 0 0 (fun _ => False) := by
  refine MER (y := yX12_worthIn) (cc := cX12_worthIn) (maxL := 5) (ret := (some .int)) (d := 4) (D := D) (cs := cs) (ws := [(m0, .inr (10, (.ref mtp :: .int sta :: .int sru :: .ref msg :: .ref mln :: .ref mcl :: .ref mcs :: .ref mrd :: .int snx :: .int swr :: .int snu :: .int ste :: .int sma :: .int sde :: .int sli :: .ref mop :: .int sod :: .ref mst :: .int sto :: .ref mwd :: .ref msd :: .int sx_ :: .ref mws :: .int sun :: .ref mfr :: .ref mqu :: .ref miw :: .int sfi :: .int swa :: .long sdx :: .ref mim :: .ref mix :: .ref mmd :: []))), (msd, .inl ((cs 0), 133, .inl gsd))]) (av := [.ref m0, .int a]) (Qc := QP (fun v => ∃ x : Int32, v = .int x)) (by decide) (Nat.le_of_ble_eq_true rfl) ?_
  intro p e s m below meth c ls H hHe hx hb hr hml hown hts hlocks hP hK hN hl
  obtain ⟨locs, hlc⟩ : ∃ z : List Loc, z = [] := ⟨_, rfl⟩
  rw [← hlc]
  have hown : s.vm.findClass "WrongHoleModel" = some m.cls := hown
  have hT : ∀ w ∈ TB, w.before ([.ref m0, .int a] : List Value).toArray s = true := fun w h => hts w (List.mem_cons_of_mem _ h)
  have hl : lv_has ls 5 [(0, .ref m0), (1, .int a)] := hl
  have hP : va_P D vwCl [(m0, .inr (10, (.ref mtp :: .int sta :: .int sru :: .ref msg :: .ref mln :: .ref mcl :: .ref mcs :: .ref mrd :: .int snx :: .int swr :: .int snu :: .int ste :: .int sma :: .int sde :: .int sli :: .ref mop :: .int sod :: .ref mst :: .int sto :: .ref mwd :: .ref msd :: .int sx_ :: .ref mws :: .int sun :: .ref mfr :: .ref mqu :: .ref miw :: .int sfi :: .int swa :: .long sdx :: .ref mim :: .ref mix :: .ref mmd :: []))), (msd, .inl ((cs 0), 133, .inl gsd))] H := hP
  refine lv_iconst (v := 0) hx hb dX12_worthIn_0 (by decide) ?_
  refine lv_istore_n (lv' := [(2, .int 0), (0, .ref m0), (1, .int a)]) hx hb dX12_worthIn_1 rfl hl (by decide) rfl (fun ls hl => ?_)
  refine lv_aload_n hx hb dX12_worthIn_2 rfl (lv_at hl 1 rfl) ?_
  refine lv_iload_n hx hb dX12_worthIn_3 rfl (lv_at hl 2 rfl) ?_
  have hPc := va_P.sub (ws' := [(m0, .inr (10, (.ref mtp :: .int sta :: .int sru :: .ref msg :: .ref mln :: .ref mcl :: .ref mcs :: .ref mrd :: .int snx :: .int swr :: .int snu :: .int ste :: .int sma :: .int sde :: .int sli :: .ref mop :: .int sod :: .ref mst :: .int sto :: .ref mwd :: .ref msd :: .int sx_ :: .ref mws :: .int sun :: .ref mfr :: .ref mqu :: .ref miw :: .int sfi :: .int swa :: .long sdx :: .ref mim :: .ref mix :: .ref mmd :: []))), (msd, .inl ((cs 0), 133, .inl gsd))]) hP [0, 1] rfl
  refine cl_P (W.runV (As := [.int a]) (rest := []) ⟨hx, hb, hml, hown, hts⟩ (c_M_rightIn l D cs m0 mtp sta sru msg mln mcl mcs mrd snx swr snu ste sma sde sli mop sod mst sto mwd msd sx_ mws sun mfr mqu miw sfi swa sdx mim mix mmd gsd a hsi hbk) ⟨callB_of 1 hts (gd_C qq_7_69) rfl rfl rfl (hT _ qq_1_9) (hT _ qq_7_66) (by decide +kernel) (rm_R rfl rfl), (hT _ qq_7_68), (hT _ qs_5_6)⟩ (pq_V hPc hK hN (ci := 10) (q0 := 0) rfl rfl) rfl rfl hl.1 rfl (lv_room (Nat.le_of_ble_eq_true rfl)) dX12_worthIn_4 ⟨Nat.le_of_ble_eq_true rfl, Nat.le_of_ble_eq_true rfl⟩) (fun v9 hz_2 => ?_)
  obtain ⟨x_1, rfl, r_3⟩ := hz_2
  refine lv_istore_n (lv' := [(3, .int x_1), (2, .int 0), (0, .ref m0), (1, .int a)]) hx hb dX12_worthIn_7 rfl hl (by decide) rfl (fun ls hl => ?_)
  refine lv_iconst (v := 0) hx hb dX12_worthIn_8 (by decide) ?_
  refine lv_istore (lv' := [(4, .int 0), (3, .int x_1), (2, .int 0), (0, .ref m0), (1, .int a)]) hx hb dX12_worthIn_9 hl (by decide) rfl (fun ls hl => ?_)
  refine w_wh (σ := (Int32) × (Int32)) (fun x9 H locs ls => match x9 with | (v_36, v_37) => Rg 0 8 v_36 ∧ H = s.heap ∧ locs = [] ∧ va_P D vwCl [(m0, .inr (10, (.ref mtp :: .int sta :: .int sru :: .ref msg :: .ref mln :: .ref mcl :: .ref mcs :: .ref mrd :: .int snx :: .int swr :: .int snu :: .int ste :: .int sma :: .int sde :: .int sli :: .ref mop :: .int sod :: .ref mst :: .int sto :: .ref mwd :: .ref msd :: .int sx_ :: .ref mws :: .int sun :: .ref mfr :: .ref mqu :: .ref miw :: .int sfi :: .int swa :: .long sdx :: .ref mim :: .ref mix :: .ref mmd :: []))), (msd, .inl ((cs 0), 133, .inl gsd))] H ∧ lv_has ls 5 [(4, .int v_36), (3, .int x_1), (2, .int v_37), (0, .ref m0), (1, .int a)]) (fun x9 => match x9 with | (v_36, v_37) => (8 - Int32.toInt v_36).toNat) 11 ?_ (0, 0) H locs ls ⟨(Rg.wk (lo2 := 0) (hi2 := 8) (Rg.c (c := 0) (k := 0) rfl) (by decide)), hHe, hlc, hP, lv_sub hl [0, 1, 2, 3, 4] rfl⟩
  rintro ⟨v_36, v_37⟩ H locs ls ⟨r_419, hHe, hlc, hP, hl⟩ ih_418
  refine lv_iload hx hb dX12_worthIn_11 (lv_at hl 0 rfl) ?_
  refine lv_aload_n hx hb dX12_worthIn_13 rfl (lv_at hl 3 rfl) ?_
  refine va_get (D := D) (ci := 10) (v := .ref msd) (C := "WrongHoleModel") (T := TX12) (N := 33) hx hb hts (iq_RX12 _) hown hK hP 0 rfl rfl 20 (by decide) (hT _ qq_5_172) (fun _ h9 => h9) rfl dX12_worthIn_14 ?_
  refine lv_iconst (v := 0) hx hb dX12_worthIn_17 (by decide) ?_
  have hi_420 : vp_in 0 133 := vi_c rfl
  refine va_iald hx hb hK hP 1 0 rfl rfl hi_420 dX12_worthIn_18 ?_
  refine lv_topi (fun x_421 e_422 => ?_)
  have r_423 : Rg 0 8 x_421 := Rg.of e_422 (hsi.a0)
  refine lv_icmp_ge (tgt := 51) hx hb dX12_worthIn_19 (by decide) (fun c_424 => ?_) (fun c_424 => ?_)
  · refine lv_iload_n hx hb dX12_worthIn_51 rfl (lv_at hl 2 rfl) ?_
    exact W.iret (v := v_37) hx hb hr (fun t9 ht9 hW9 => ⟨⟨_, rfl, _, rfl⟩, ht9.trans hHe⟩) (fun _ h9 => by rw [hlc] at h9; exact absurd h9 List.not_mem_nil) dX12_worthIn_52
  · have r_425 : Rg 0 7 v_36 := Rg.lt_l (nle_lt c_424) r_419 r_423 (by decide)
    have r_426 : Rg 1 8 x_421 := Rg.lt_r (nle_lt c_424) r_419 r_423 (by decide)
    refine lv_iload_n hx hb dX12_worthIn_22 rfl (lv_at hl 2 rfl) ?_
    refine lv_iload_n hx hb dX12_worthIn_23 rfl (lv_at hl 1 rfl) ?_
    refine lv_iload hx hb dX12_worthIn_24 (lv_at hl 0 rfl) ?_
    have hPc := va_P.sub (ws' := []) hP [] rfl
    refine cl_V (W.runS (As := [.int x_1, .int v_36]) (rest := [.int v_37]) ⟨hx, hb, hml, hown, hts⟩ (c_M_isOf l D cs x_1 v_36 r_3 r_425) ⟨callB_of 2 hts (gd_C qq_7_72) rfl rfl rfl (hT _ qq_1_9) (hT _ qq_7_70) (by decide +kernel) (rm_R rfl rfl), (hT _ qq_7_71)⟩ (pq_S hPc hK hN) rfl rfl hl.1 rfl (lv_room (Nat.le_of_ble_eq_true rfl)) dX12_worthIn_26 ⟨Nat.le_of_ble_eq_true rfl, Nat.le_of_ble_eq_true rfl⟩) ?_
    refine lv_topi (fun x_443 e_444 => ?_)
    have r_445 : Rg 0 1 x_443 := Rg.of e_444 (bt_rg _ _)
    refine w_cut (σ := (Int32)) (fun (v_451 : Int32) H locs ls => H = s.heap ∧ locs = [] ∧ va_P D vwCl [(m0, .inr (10, (.ref mtp :: .int sta :: .int sru :: .ref msg :: .ref mln :: .ref mcl :: .ref mcs :: .ref mrd :: .int snx :: .int swr :: .int snu :: .int ste :: .int sma :: .int sde :: .int sli :: .ref mop :: .int sod :: .ref mst :: .int sto :: .ref mwd :: .ref msd :: .int sx_ :: .ref mws :: .int sun :: .ref mfr :: .ref mqu :: .ref miw :: .int sfi :: .int swa :: .long sdx :: .ref mim :: .ref mix :: .ref mmd :: []))), (msd, .inl ((cs 0), 133, .inl gsd))] H ∧ lv_has ls 5 [(4, .int v_36), (3, .int x_1), (2, .int v_37), (0, .ref m0), (1, .int a)]) 43 (fun (v_451 : Int32) => [.int v_451, .int v_37]) ?_ (fun hj_452 => ?_)
    · rintro v_451 H locs ls ⟨hHe, hlc, hP, hl⟩
      refine lv_iadd hx hb dX12_worthIn_43 ?_
      refine lv_topi (fun x_453 e_454 => ?_)
      refine lv_istore_n (lv' := [(2, .int x_453), (4, .int v_36), (3, .int x_1), (0, .ref m0), (1, .int a)]) hx hb dX12_worthIn_44 rfl hl (by decide) rfl (fun ls hl => ?_)
      obtain ⟨x_455, e_456⟩ : ∃ z : Int32, z = v_36 + Int32.ofInt 1 := ⟨_, rfl⟩
      have r_457 : Rg 1 8 x_455 := Rg.add e_456 r_425 (Rg.c (c := Int32.ofInt 1) (k := 1) rfl) (by decide)
      refine lv_iinc (v := x_455) (lv' := [(4, .int x_455), (2, .int x_453), (3, .int x_1), (0, .ref m0), (1, .int a)]) hx hb dX12_worthIn_45 hl (k := 1) rfl (e_456.symm) (by decide) rfl (fun ls hl => ?_)
      refine lv_goto (tgt := 11) hx hb dX12_worthIn_48 (by decide) ?_
      exact ih_418 (x_455, x_453) _ _ _ ⟨(Rg.wk (lo2 := 0) (hi2 := 8) r_457 (by decide)), hHe, hlc, hP, lv_sub hl [0, 2, 1, 3, 4] rfl⟩ (ms_up e_456 r_425 (Rg.c (c := Int32.ofInt 1) (k := 1) rfl) (by decide))
    · refine lv_if_eq (tgt := 42) hx hb dX12_worthIn_29 (by decide) (fun c_446 => ?_) (fun c_446 => ?_)
      · have r_447 : Rg 0 0 x_443 := Rg.eq_l c_446 r_445 (Rg.c (c := 0) (k := 0) rfl) (by decide)
        refine lv_iconst (v := 0) hx hb dX12_worthIn_42 (by decide) ?_
        exact hj_452 0 _ _ _ ⟨hHe, hlc, hP, lv_sub hl [0, 1, 2, 3, 4] rfl⟩
      · have r_448 : Rg 1 1 x_443 := Rg.ne c_446 r_445 (Rg.c (c := 0) (k := 0) rfl) (by decide)
        refine lv_aload_n hx hb dX12_worthIn_32 rfl (lv_at hl 3 rfl) ?_
        refine lv_iload hx hb dX12_worthIn_33 (lv_at hl 0 rfl) ?_
        refine lv_iconst (v := 4) hx hb dX12_worthIn_35 (by decide) ?_
        have hPc := va_P.sub (ws' := [(m0, .inr (10, (.ref mtp :: .int sta :: .int sru :: .ref msg :: .ref mln :: .ref mcl :: .ref mcs :: .ref mrd :: .int snx :: .int swr :: .int snu :: .int ste :: .int sma :: .int sde :: .int sli :: .ref mop :: .int sod :: .ref mst :: .int sto :: .ref mwd :: .ref msd :: .int sx_ :: .ref mws :: .int sun :: .ref mfr :: .ref mqu :: .ref miw :: .int sfi :: .int swa :: .long sdx :: .ref mim :: .ref mix :: .ref mmd :: []))), (msd, .inl ((cs 0), 133, .inl gsd))]) hP [0, 1] rfl
        refine cl_V (W.runV (As := [.int v_36, .int 4]) (rest := [.int v_37]) ⟨hx, hb, hml, hown, hts⟩ (c_M_buttonOf_4 l D cs m0 mtp sta sru msg mln mcl mcs mrd snx swr snu ste sma sde sli mop sod mst sto mwd msd sx_ mws sun mfr mqu miw sfi swa sdx mim mix mmd gsd v_36 hsi r_425) ⟨callB_of 2 hts (gd_C qq_7_9) rfl rfl rfl (hT _ qq_1_9) (hT _ qq_7_6) (by decide +kernel) (rm_R rfl rfl), (hT _ qq_7_8), (hT _ qs_4_11)⟩ (pq_V hPc hK hN (ci := 10) (q0 := 0) rfl rfl) rfl rfl hl.1 rfl (lv_room (Nat.le_of_ble_eq_true rfl)) dX12_worthIn_36 ⟨Nat.le_of_ble_eq_true rfl, Nat.le_of_ble_eq_true rfl⟩) ?_
        refine lv_topi (fun x_458 e_459 => ?_)
        refine lv_goto (tgt := 43) hx hb dX12_worthIn_39 (by decide) ?_
        exact hj_452 x_458 _ _ _ ⟨hHe, hlc, hP, lv_sub hl [0, 1, 2, 3, 4] rfl⟩
