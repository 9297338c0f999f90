theorem dX12_canBeRead_0 : decode cX12_canBeRead 0 = .ok (.aload_n 0, 1) := by decide +kernel
theorem dX12_canBeRead_1 : decode cX12_canBeRead 1 = .ok (.getfield 26, 3) := by decide +kernel
theorem dX12_canBeRead_4 : decode cX12_canBeRead 4 = .ok (.bipush 18, 2) := by decide +kernel
theorem dX12_canBeRead_6 : decode cX12_canBeRead 6 = .ok (.iconst 5, 1) := by decide +kernel
theorem dX12_canBeRead_7 : decode cX12_canBeRead 7 = .ok (.iload_n 1, 1) := by decide +kernel
theorem dX12_canBeRead_8 : decode cX12_canBeRead 8 = .ok (.imul, 1) := by decide +kernel
theorem dX12_canBeRead_9 : decode cX12_canBeRead 9 = .ok (.iadd, 1) := by decide +kernel
theorem dX12_canBeRead_10 : decode cX12_canBeRead 10 = .ok (.iconst 1, 1) := by decide +kernel
theorem dX12_canBeRead_11 : decode cX12_canBeRead 11 = .ok (.iadd, 1) := by decide +kernel
theorem dX12_canBeRead_12 : decode cX12_canBeRead 12 = .ok (.iaload, 1) := by decide +kernel
theorem dX12_canBeRead_13 : decode cX12_canBeRead 13 = .ok (.iconst 1, 1) := by decide +kernel
theorem dX12_canBeRead_14 : decode cX12_canBeRead 14 = .ok (.if_icmp .eq 45, 3) := by decide +kernel
theorem dX12_canBeRead_59 : decode cX12_canBeRead 59 = .ok (.iconst 0, 1) := by decide +kernel
theorem dX12_canBeRead_60 : decode cX12_canBeRead 60 = .ok (.ireturn, 1) := by decide +kernel
theorem dX12_canBeRead_17 : decode cX12_canBeRead 17 = .ok (.aload_n 0, 1) := by decide +kernel
theorem dX12_canBeRead_18 : decode cX12_canBeRead 18 = .ok (.getfield 26, 3) := by decide +kernel
theorem dX12_canBeRead_21 : decode cX12_canBeRead 21 = .ok (.bipush 58, 2) := by decide +kernel
theorem dX12_canBeRead_23 : decode cX12_canBeRead 23 = .ok (.iconst 2, 1) := by decide +kernel
theorem dX12_canBeRead_24 : decode cX12_canBeRead 24 = .ok (.iload_n 2, 1) := by decide +kernel
theorem dX12_canBeRead_25 : decode cX12_canBeRead 25 = .ok (.imul, 1) := by decide +kernel
theorem dX12_canBeRead_26 : decode cX12_canBeRead 26 = .ok (.iadd, 1) := by decide +kernel
theorem dX12_canBeRead_27 : decode cX12_canBeRead 27 = .ok (.iconst 1, 1) := by decide +kernel
theorem dX12_canBeRead_28 : decode cX12_canBeRead 28 = .ok (.iadd, 1) := by decide +kernel
theorem dX12_canBeRead_29 : decode cX12_canBeRead 29 = .ok (.iaload, 1) := by decide +kernel
theorem dX12_canBeRead_30 : decode cX12_canBeRead 30 = .ok (.iconst 1, 1) := by decide +kernel
theorem dX12_canBeRead_31 : decode cX12_canBeRead 31 = .ok (.if_icmp .eq 28, 3) := by decide +kernel
theorem dX12_canBeRead_34 : decode cX12_canBeRead 34 = .ok (.aload_n 0, 1) := by decide +kernel
theorem dX12_canBeRead_35 : decode cX12_canBeRead 35 = .ok (.getfield 26, 3) := by decide +kernel
theorem dX12_canBeRead_38 : decode cX12_canBeRead 38 = .ok (.bipush 18, 2) := by decide +kernel
theorem dX12_canBeRead_40 : decode cX12_canBeRead 40 = .ok (.iconst 5, 1) := by decide +kernel
theorem dX12_canBeRead_41 : decode cX12_canBeRead 41 = .ok (.iload_n 1, 1) := by decide +kernel
theorem dX12_canBeRead_42 : decode cX12_canBeRead 42 = .ok (.imul, 1) := by decide +kernel
theorem dX12_canBeRead_43 : decode cX12_canBeRead 43 = .ok (.iadd, 1) := by decide +kernel
theorem dX12_canBeRead_44 : decode cX12_canBeRead 44 = .ok (.iaload, 1) := by decide +kernel
theorem dX12_canBeRead_45 : decode cX12_canBeRead 45 = .ok (.aload_n 0, 1) := by decide +kernel
theorem dX12_canBeRead_46 : decode cX12_canBeRead 46 = .ok (.getfield 26, 3) := by decide +kernel
theorem dX12_canBeRead_49 : decode cX12_canBeRead 49 = .ok (.bipush 58, 2) := by decide +kernel
theorem dX12_canBeRead_51 : decode cX12_canBeRead 51 = .ok (.iconst 2, 1) := by decide +kernel
theorem dX12_canBeRead_52 : decode cX12_canBeRead 52 = .ok (.iload_n 2, 1) := by decide +kernel
theorem dX12_canBeRead_53 : decode cX12_canBeRead 53 = .ok (.imul, 1) := by decide +kernel
theorem dX12_canBeRead_54 : decode cX12_canBeRead 54 = .ok (.iadd, 1) := by decide +kernel
theorem dX12_canBeRead_55 : decode cX12_canBeRead 55 = .ok (.iaload, 1) := by decide +kernel
theorem dX12_canBeRead_56 : decode cX12_canBeRead 56 = .ok (.if_icmp .eq 5, 3) := by decide +kernel
theorem dX12_canBeRead_61 : decode cX12_canBeRead 61 = .ok (.iconst 0, 1) := by decide +kernel
theorem dX12_canBeRead_62 : decode cX12_canBeRead 62 = .ok (.istore_n 3, 1) := by decide +kernel
theorem dX12_canBeRead_63 : decode cX12_canBeRead 63 = .ok (.iload_n 3, 1) := by decide +kernel
theorem dX12_canBeRead_64 : decode cX12_canBeRead 64 = .ok (.aload_n 0, 1) := by decide +kernel
theorem dX12_canBeRead_65 : decode cX12_canBeRead 65 = .ok (.getfield 26, 3) := by decide +kernel
theorem dX12_canBeRead_68 : decode cX12_canBeRead 68 = .ok (.iconst 0, 1) := by decide +kernel
theorem dX12_canBeRead_69 : decode cX12_canBeRead 69 = .ok (.iaload, 1) := by decide +kernel
theorem dX12_canBeRead_70 : decode cX12_canBeRead 70 = .ok (.if_icmp .ge 62, 3) := by decide +kernel
theorem dX12_canBeRead_132 : decode cX12_canBeRead 132 = .ok (.iconst 1, 1) := by decide +kernel
theorem dX12_canBeRead_133 : decode cX12_canBeRead 133 = .ok (.ireturn, 1) := by decide +kernel
theorem dX12_canBeRead_73 : decode cX12_canBeRead 73 = .ok (.aload_n 0, 1) := by decide +kernel
theorem dX12_canBeRead_74 : decode cX12_canBeRead 74 = .ok (.getfield 26, 3) := by decide +kernel
theorem dX12_canBeRead_77 : decode cX12_canBeRead 77 = .ok (.bipush 10, 2) := by decide +kernel
theorem dX12_canBeRead_79 : decode cX12_canBeRead 79 = .ok (.iload_n 3, 1) := by decide +kernel
theorem dX12_canBeRead_80 : decode cX12_canBeRead 80 = .ok (.iadd, 1) := by decide +kernel
theorem dX12_canBeRead_81 : decode cX12_canBeRead 81 = .ok (.iaload, 1) := by decide +kernel
theorem dX12_canBeRead_82 : decode cX12_canBeRead 82 = .ok (.istore 4, 2) := by decide +kernel
theorem dX12_canBeRead_84 : decode cX12_canBeRead 84 = .ok (.iload_n 3, 1) := by decide +kernel
theorem dX12_canBeRead_85 : decode cX12_canBeRead 85 = .ok (.iload_n 1, 1) := by decide +kernel
theorem dX12_canBeRead_86 : decode cX12_canBeRead 86 = .ok (.if_icmp .eq 40, 3) := by decide +kernel
theorem dX12_canBeRead_126 : decode cX12_canBeRead 126 = .ok (.iinc 3 1, 3) := by decide +kernel
theorem dX12_canBeRead_129 : decode cX12_canBeRead 129 = .ok (.goto (-66), 3) := by decide +kernel
theorem dX12_canBeRead_89 : decode cX12_canBeRead 89 = .ok (.iload 4, 2) := by decide +kernel
theorem dX12_canBeRead_91 : decode cX12_canBeRead 91 = .ok (.ifCond .lt 35, 3) := by decide +kernel
theorem dX12_canBeRead_94 : decode cX12_canBeRead 94 = .ok (.iload 4, 2) := by decide +kernel
theorem dX12_canBeRead_96 : decode cX12_canBeRead 96 = .ok (.iload_n 2, 1) := by decide +kernel
theorem dX12_canBeRead_97 : decode cX12_canBeRead 97 = .ok (.if_icmp .eq 27, 3) := by decide +kernel
theorem dX12_canBeRead_124 : decode cX12_canBeRead 124 = .ok (.iconst 0, 1) := by decide +kernel
theorem dX12_canBeRead_125 : decode cX12_canBeRead 125 = .ok (.ireturn, 1) := by decide +kernel
theorem dX12_canBeRead_100 : decode cX12_canBeRead 100 = .ok (.iload 4, 2) := by decide +kernel
theorem dX12_canBeRead_102 : decode cX12_canBeRead 102 = .ok (.iload_n 2, 1) := by decide +kernel
theorem dX12_canBeRead_103 : decode cX12_canBeRead 103 = .ok (.if_icmp .ge 7, 3) := by decide +kernel
theorem dX12_canBeRead_111 : decode cX12_canBeRead 111 = .ok (.iload_n 3, 1) := by decide +kernel
theorem dX12_canBeRead_112 : decode cX12_canBeRead 112 = .ok (.iload_n 1, 1) := by decide +kernel
theorem dX12_canBeRead_113 : decode cX12_canBeRead 113 = .ok (.if_icmp .ge 7, 3) := by decide +kernel
theorem dX12_canBeRead_121 : decode cX12_canBeRead 121 = .ok (.if_icmp .eq 5, 3) := by decide +kernel
theorem dX12_canBeRead_120 : decode cX12_canBeRead 120 = .ok (.iconst 0, 1) := by decide +kernel
theorem dX12_canBeRead_116 : decode cX12_canBeRead 116 = .ok (.iconst 1, 1) := by decide +kernel
theorem dX12_canBeRead_117 : decode cX12_canBeRead 117 = .ok (.goto 4, 3) := by decide +kernel
theorem dX12_canBeRead_110 : decode cX12_canBeRead 110 = .ok (.iconst 0, 1) := by decide +kernel
theorem dX12_canBeRead_106 : decode cX12_canBeRead 106 = .ok (.iconst 1, 1) := by decide +kernel
theorem dX12_canBeRead_107 : decode cX12_canBeRead 107 = .ok (.goto 4, 3) := by decide +kernel
set_option maxHeartbeats 4000000 in
set_option maxRecDepth 100000 in
theorem c_M_canBeRead (l : Launch) (D : va_G) (cs : Nat → ClassId) (m0 : Nat) (mtp : Nat) (sta : Int32) (sru : Int32) (msg : Nat) (mln : Nat) (mcl : Nat) (mcs : Nat) (mrd : Nat) (snx : Int32) (swr : Int32) (snu : Int32) (ste : Int32) (sma : Int32) (sde : Int32) (sli : Int32) (mop : Nat) (sod : Int32) (mst : Nat) (sto : Int32) (mwd : Nat) (msd : Nat) (sx_ : Int32) (mws : Nat) (sun : Int32) (mfr : Nat) (mqu : Nat) (miw : Nat) (sfi : Int32) (swa : Int32) (sdx : Int64) (mim : Nat) (mix : Nat) (mmd : Nat) (grd : Nat → Int32) (a : Int32) (b : Int32) (hrk : RK grd) (r_a : Rg 0 7 a) (r_b : Rg 0 7 b) : Met l yX12_canBeRead (Cond.code yX12_canBeRead cX12_canBeRead 5 (some .boolean) :: TB) (RM 0 0 0) (va_Pc [.ref m0, .int a, .int b] (PRR D cs [(m0, .inr (10, (.ref mtp :: .int sta :: .int sru :: .ref msg :: .ref mln :: .ref mcl :: .ref mcs :: .ref mrd :: .int snx :: .int swr :: .int snu :: .int ste :: .int sma :: .int sde :: .int sli :: .ref mop :: .int sod :: .ref mst :: .int sto :: .ref mwd :: .ref msd :: .int sx_ :: .ref mws :: .int sun :: .ref mfr :: .ref mqu :: .ref miw :: .int sfi :: .int swa :: .long sdx :: .ref mim :: .ref mix :: .ref mmd :: []))), (mrd, .inl ((cs 0), 92, .inl grd))])) (QP (fun v => ∃ x : Int32, v = .int x ∧ Rg 0 1 x ∧ (¬ x = 0 → NH grd a b (cN (grd 0))))) 0 0 (fun _ => False) := by
  refine MER (y := yX12_canBeRead) (cc := cX12_canBeRead) (maxL := 5) (ret := (some .boolean)) (d := 0) (D := D) (cs := cs) (ws := [(m0, .inr (10, (.ref mtp :: .int sta :: .int sru :: .ref msg :: .ref mln :: .ref mcl :: .ref mcs :: .ref mrd :: .int snx :: .int swr :: .int snu :: .int ste :: .int sma :: .int sde :: .int sli :: .ref mop :: .int sod :: .ref mst :: .int sto :: .ref mwd :: .ref msd :: .int sx_ :: .ref mws :: .int sun :: .ref mfr :: .ref mqu :: .ref miw :: .int sfi :: .int swa :: .long sdx :: .ref mim :: .ref mix :: .ref mmd :: []))), (mrd, .inl ((cs 0), 92, .inl grd))]) (av := [.ref m0, .int a, .int b]) (Qc := QP (fun v => ∃ x : Int32, v = .int x ∧ Rg 0 1 x ∧ (¬ x = 0 → NH grd a b (cN (grd 0))))) (by decide) (Nat.le_of_ble_eq_true rfl) ?_
  intro p e s m below meth c ls H hHe hx hb hr hml hown hts hlocks hP hK hN hl
  obtain ⟨locs, hlc⟩ : ∃ z : List Loc, z = [] := ⟨_, rfl⟩
  rw [← hlc]
  have hown : s.vm.findClass "WrongHoleModel" = some m.cls := hown
  have hT : ∀ w ∈ TB, w.before ([.ref m0, .int a, .int b] : List Value).toArray s = true := fun w h => hts w (List.mem_cons_of_mem _ h)
  have hl : lv_has ls 5 [(0, .ref m0), (1, .int a), (2, .int b)] := hl
  have hP : va_P D vwCl [(m0, .inr (10, (.ref mtp :: .int sta :: .int sru :: .ref msg :: .ref mln :: .ref mcl :: .ref mcs :: .ref mrd :: .int snx :: .int swr :: .int snu :: .int ste :: .int sma :: .int sde :: .int sli :: .ref mop :: .int sod :: .ref mst :: .int sto :: .ref mwd :: .ref msd :: .int sx_ :: .ref mws :: .int sun :: .ref mfr :: .ref mqu :: .ref miw :: .int sfi :: .int swa :: .long sdx :: .ref mim :: .ref mix :: .ref mmd :: []))), (mrd, .inl ((cs 0), 92, .inl grd))] H := hP
  refine lv_aload_n hx hb dX12_canBeRead_0 rfl (lv_at hl 0 rfl) ?_
  refine va_get (D := D) (ci := 10) (v := .ref mrd) (C := "WrongHoleModel") (T := TX12) (N := 33) hx hb hts (iq_RX12 _) hown hK hP 0 rfl rfl 7 (by decide) (hT _ qq_5_159) (fun _ h9 => h9) rfl dX12_canBeRead_1 ?_
  refine lv_bipush (v := 18) hx hb dX12_canBeRead_4 (by decide) ?_
  refine lv_iconst (v := 5) hx hb dX12_canBeRead_6 (by decide) ?_
  refine lv_iload_n hx hb dX12_canBeRead_7 rfl (lv_at hl 1 rfl) ?_
  refine lv_imul hx hb dX12_canBeRead_8 ?_
  refine lv_topi (fun x_1 e_2 => ?_)
  have r_3 : Rg 0 35 x_1 := Rg.mul (ha := 5) (hb := 7) e_2 (Rg.wk (lo2 := 0) (hi2 := 5) (Rg.c (c := 5) (k := 5) rfl) (by decide)) r_a (by decide)
  refine lv_iadd hx hb dX12_canBeRead_9 ?_
  refine lv_topi (fun x_4 e_5 => ?_)
  have r_6 : Rg 18 53 x_4 := Rg.add e_5 (Rg.c (c := 18) (k := 18) rfl) r_3 (by decide)
  refine lv_iconst (v := 1) hx hb dX12_canBeRead_10 (by decide) ?_
  refine lv_iadd hx hb dX12_canBeRead_11 ?_
  refine lv_topi (fun x_7 e_8 => ?_)
  have r_9 : Rg 19 54 x_7 := Rg.add e_8 r_6 (Rg.c (c := 1) (k := 1) rfl) (by decide)
  have hi_10 : vp_in x_7 92 := Rg.in r_9 (by decide)
  refine va_iald hx hb hK hP 1 0 rfl rfl hi_10 dX12_canBeRead_12 ?_
  refine lv_topi (fun x_11 e_12 => ?_)
  refine lv_iconst (v := 1) hx hb dX12_canBeRead_13 (by decide) ?_
  refine lv_icmp_eq (tgt := 59) hx hb dX12_canBeRead_14 (by decide) (fun c_13 => ?_) (fun c_13 => ?_)
  · have r_14 : Rg 1 1 x_11 := Rg.eq_l c_13 (Rg.top x_11) (Rg.c (c := 1) (k := 1) rfl) (by decide)
    refine lv_iconst (v := 0) hx hb dX12_canBeRead_59 (by decide) ?_
    exact W.zret (v := 0) (ty := .boolean) hx hb hr rfl (fun t9 ht9 hW9 => ⟨⟨_, rfl, _, rfl, ⟨⟨by decide, by decide⟩, fun q9 => absurd rfl q9⟩⟩, ht9.trans hHe⟩) (fun _ h9 => by rw [hlc] at h9; exact absurd h9 List.not_mem_nil) dX12_canBeRead_60
  · refine lv_aload_n hx hb dX12_canBeRead_17 rfl (lv_at hl 0 rfl) ?_
    refine va_get (D := D) (ci := 10) (v := .ref mrd) (C := "WrongHoleModel") (T := TX12) (N := 33) hx hb hts (iq_RX12 _) hown hK hP 0 rfl rfl 7 (by decide) (hT _ qq_5_159) (fun _ h9 => h9) rfl dX12_canBeRead_18 ?_
    refine lv_bipush (v := 58) hx hb dX12_canBeRead_21 (by decide) ?_
    refine lv_iconst (v := 2) hx hb dX12_canBeRead_23 (by decide) ?_
    refine lv_iload_n hx hb dX12_canBeRead_24 rfl (lv_at hl 2 rfl) ?_
    refine lv_imul hx hb dX12_canBeRead_25 ?_
    refine lv_topi (fun x_15 e_16 => ?_)
    have r_17 : Rg 0 14 x_15 := Rg.mul (ha := 2) (hb := 7) e_16 (Rg.wk (lo2 := 0) (hi2 := 2) (Rg.c (c := 2) (k := 2) rfl) (by decide)) r_b (by decide)
    refine lv_iadd hx hb dX12_canBeRead_26 ?_
    refine lv_topi (fun x_18 e_19 => ?_)
    have r_20 : Rg 58 72 x_18 := Rg.add e_19 (Rg.c (c := 58) (k := 58) rfl) r_17 (by decide)
    refine lv_iconst (v := 1) hx hb dX12_canBeRead_27 (by decide) ?_
    refine lv_iadd hx hb dX12_canBeRead_28 ?_
    refine lv_topi (fun x_21 e_22 => ?_)
    have r_23 : Rg 59 73 x_21 := Rg.add e_22 r_20 (Rg.c (c := 1) (k := 1) rfl) (by decide)
    have hi_24 : vp_in x_21 92 := Rg.in r_23 (by decide)
    refine va_iald hx hb hK hP 1 0 rfl rfl hi_24 dX12_canBeRead_29 ?_
    refine lv_topi (fun x_25 e_26 => ?_)
    refine lv_iconst (v := 1) hx hb dX12_canBeRead_30 (by decide) ?_
    refine lv_icmp_eq (tgt := 59) hx hb dX12_canBeRead_31 (by decide) (fun c_27 => ?_) (fun c_27 => ?_)
    · have r_28 : Rg 1 1 x_25 := Rg.eq_l c_27 (Rg.top x_25) (Rg.c (c := 1) (k := 1) rfl) (by decide)
      refine lv_iconst (v := 0) hx hb dX12_canBeRead_59 (by decide) ?_
      exact W.zret (v := 0) (ty := .boolean) hx hb hr rfl (fun t9 ht9 hW9 => ⟨⟨_, rfl, _, rfl, ⟨⟨by decide, by decide⟩, fun q9 => absurd rfl q9⟩⟩, ht9.trans hHe⟩) (fun _ h9 => by rw [hlc] at h9; exact absurd h9 List.not_mem_nil) dX12_canBeRead_60
    · refine lv_aload_n hx hb dX12_canBeRead_34 rfl (lv_at hl 0 rfl) ?_
      refine va_get (D := D) (ci := 10) (v := .ref mrd) (C := "WrongHoleModel") (T := TX12) (N := 33) hx hb hts (iq_RX12 _) hown hK hP 0 rfl rfl 7 (by decide) (hT _ qq_5_159) (fun _ h9 => h9) rfl dX12_canBeRead_35 ?_
      refine lv_bipush (v := 18) hx hb dX12_canBeRead_38 (by decide) ?_
      refine lv_iconst (v := 5) hx hb dX12_canBeRead_40 (by decide) ?_
      refine lv_iload_n hx hb dX12_canBeRead_41 rfl (lv_at hl 1 rfl) ?_
      refine lv_imul hx hb dX12_canBeRead_42 ?_
      refine lv_topi (fun x_29 e_30 => ?_)
      have r_31 : Rg 0 35 x_29 := Rg.mul (ha := 5) (hb := 7) e_30 (Rg.wk (lo2 := 0) (hi2 := 5) (Rg.c (c := 5) (k := 5) rfl) (by decide)) r_a (by decide)
      refine lv_iadd hx hb dX12_canBeRead_43 ?_
      refine lv_topi (fun x_32 e_33 => ?_)
      have r_34 : Rg 18 53 x_32 := Rg.add e_33 (Rg.c (c := 18) (k := 18) rfl) r_31 (by decide)
      have hi_35 : vp_in x_32 92 := Rg.in r_34 (by decide)
      refine va_iald hx hb hK hP 1 0 rfl rfl hi_35 dX12_canBeRead_44 ?_
      refine lv_topi (fun x_36 e_37 => ?_)
      refine lv_aload_n hx hb dX12_canBeRead_45 rfl (lv_at hl 0 rfl) ?_
      refine va_get (D := D) (ci := 10) (v := .ref mrd) (C := "WrongHoleModel") (T := TX12) (N := 33) hx hb hts (iq_RX12 _) hown hK hP 0 rfl rfl 7 (by decide) (hT _ qq_5_159) (fun _ h9 => h9) rfl dX12_canBeRead_46 ?_
      refine lv_bipush (v := 58) hx hb dX12_canBeRead_49 (by decide) ?_
      refine lv_iconst (v := 2) hx hb dX12_canBeRead_51 (by decide) ?_
      refine lv_iload_n hx hb dX12_canBeRead_52 rfl (lv_at hl 2 rfl) ?_
      refine lv_imul hx hb dX12_canBeRead_53 ?_
      refine lv_topi (fun x_38 e_39 => ?_)
      have r_40 : Rg 0 14 x_38 := Rg.mul (ha := 2) (hb := 7) e_39 (Rg.wk (lo2 := 0) (hi2 := 2) (Rg.c (c := 2) (k := 2) rfl) (by decide)) r_b (by decide)
      refine lv_iadd hx hb dX12_canBeRead_54 ?_
      refine lv_topi (fun x_41 e_42 => ?_)
      have r_43 : Rg 58 72 x_41 := Rg.add e_42 (Rg.c (c := 58) (k := 58) rfl) r_40 (by decide)
      have hi_44 : vp_in x_41 92 := Rg.in r_43 (by decide)
      refine va_iald hx hb hK hP 1 0 rfl rfl hi_44 dX12_canBeRead_55 ?_
      refine lv_topi (fun x_45 e_46 => ?_)
      refine lv_icmp_eq (tgt := 61) hx hb dX12_canBeRead_56 (by decide) (fun c_47 => ?_) (fun c_47 => ?_)
      · refine lv_iconst (v := 0) hx hb dX12_canBeRead_61 (by decide) ?_
        refine lv_istore_n (lv' := [(3, .int 0), (0, .ref m0), (1, .int a), (2, .int b)]) hx hb dX12_canBeRead_62 rfl hl (by decide) rfl (fun ls hl => ?_)
        refine w_wh (σ := (Int32)) (fun (v_72 : Int32) H locs ls => Rg 0 8 v_72 ∧ (NH grd a b (cN v_72)) ∧ H = s.heap ∧ locs = [] ∧ va_P D vwCl [(m0, .inr (10, (.ref mtp :: .int sta :: .int sru :: .ref msg :: .ref mln :: .ref mcl :: .ref mcs :: .ref mrd :: .int snx :: .int swr :: .int snu :: .int ste :: .int sma :: .int sde :: .int sli :: .ref mop :: .int sod :: .ref mst :: .int sto :: .ref mwd :: .ref msd :: .int sx_ :: .ref mws :: .int sun :: .ref mfr :: .ref mqu :: .ref miw :: .int sfi :: .int swa :: .long sdx :: .ref mim :: .ref mix :: .ref mmd :: []))), (mrd, .inl ((cs 0), 92, .inl grd))] H ∧ lv_has ls 5 [(3, .int v_72), (0, .ref m0), (1, .int a), (2, .int b)]) (fun (v_72 : Int32) => (8 - Int32.toInt v_72).toNat) 63 ?_ 0 H locs ls ⟨(Rg.wk (lo2 := 0) (hi2 := 8) (Rg.c (c := 0) (k := 0) rfl) (by decide)), NH.nil, hHe, hlc, hP, lv_sub hl [0, 1, 2, 3] rfl⟩
        rintro v_72 H locs ls ⟨r_214, iv_215, hHe, hlc, hP, hl⟩ ih_213
        refine lv_iload_n hx hb dX12_canBeRead_63 rfl (lv_at hl 0 rfl) ?_
        refine lv_aload_n hx hb dX12_canBeRead_64 rfl (lv_at hl 1 rfl) ?_
        refine va_get (D := D) (ci := 10) (v := .ref mrd) (C := "WrongHoleModel") (T := TX12) (N := 33) hx hb hts (iq_RX12 _) hown hK hP 0 rfl rfl 7 (by decide) (hT _ qq_5_159) (fun _ h9 => h9) rfl dX12_canBeRead_65 ?_
        refine lv_iconst (v := 0) hx hb dX12_canBeRead_68 (by decide) ?_
        have hi_216 : vp_in 0 92 := vi_c rfl
        refine va_iald hx hb hK hP 1 0 rfl rfl hi_216 dX12_canBeRead_69 ?_
        refine lv_topi (fun x_217 e_218 => ?_)
        have r_219 : Rg 0 8 x_217 := Rg.of e_218 (hrk.c0)
        refine lv_icmp_ge (tgt := 132) hx hb dX12_canBeRead_70 (by decide) (fun c_220 => ?_) (fun c_220 => ?_)
        · refine lv_iconst (v := 1) hx hb dX12_canBeRead_132 (by decide) ?_
          exact W.zret (v := 1) (ty := .boolean) hx hb hr rfl (fun t9 ht9 hW9 => ⟨⟨_, rfl, _, rfl, ⟨⟨by decide, by decide⟩, fun _ o ho => iv_215 o (by have h9 := le_cN c_220 r_219 r_214 (by decide); rw [show x_217 = grd 0 from e_218] at h9; omega)⟩⟩, ht9.trans hHe⟩) (fun _ h9 => by rw [hlc] at h9; exact absurd h9 List.not_mem_nil) dX12_canBeRead_133
        · have r_221 : Rg 0 7 v_72 := Rg.lt_l (nle_lt c_220) r_214 r_219 (by decide)
          have r_222 : Rg 1 8 x_217 := Rg.lt_r (nle_lt c_220) r_214 r_219 (by decide)
          refine lv_aload_n hx hb dX12_canBeRead_73 rfl (lv_at hl 1 rfl) ?_
          refine va_get (D := D) (ci := 10) (v := .ref mrd) (C := "WrongHoleModel") (T := TX12) (N := 33) hx hb hts (iq_RX12 _) hown hK hP 0 rfl rfl 7 (by decide) (hT _ qq_5_159) (fun _ h9 => h9) rfl dX12_canBeRead_74 ?_
          refine lv_bipush (v := 10) hx hb dX12_canBeRead_77 (by decide) ?_
          refine lv_iload_n hx hb dX12_canBeRead_79 rfl (lv_at hl 0 rfl) ?_
          refine lv_iadd hx hb dX12_canBeRead_80 ?_
          refine lv_topi (fun x_223 e_224 => ?_)
          have r_225 : Rg 10 17 x_223 := Rg.add e_224 (Rg.c (c := 10) (k := 10) rfl) r_221 (by decide)
          have hi_226 : vp_in x_223 92 := Rg.in r_225 (by decide)
          refine va_iald hx hb hK hP 1 0 rfl rfl hi_226 dX12_canBeRead_81 ?_
          refine lv_topi (fun x_227 e_228 => ?_)
          have r_229 : Rg (-1) 7 x_227 := Rg.of e_228 (hrk.li r_225 (by decide))
          refine lv_istore (lv' := [(4, .int x_227), (3, .int v_72), (0, .ref m0), (1, .int a), (2, .int b)]) hx hb dX12_canBeRead_82 hl (by decide) rfl (fun ls hl => ?_)
          refine lv_iload_n hx hb dX12_canBeRead_84 rfl (lv_at hl 1 rfl) ?_
          refine lv_iload_n hx hb dX12_canBeRead_85 rfl (lv_at hl 3 rfl) ?_
          refine lv_icmp_eq (tgt := 126) hx hb dX12_canBeRead_86 (by decide) (fun c_230 => ?_) (fun c_230 => ?_)
          · obtain ⟨x_231, e_232⟩ : ∃ z : Int32, z = v_72 + Int32.ofInt 1 := ⟨_, rfl⟩
            have r_233 : Rg 1 8 x_231 := Rg.add e_232 r_221 (Rg.c (c := Int32.ofInt 1) (k := 1) rfl) (by decide)
            refine lv_iinc (v := x_231) (lv' := [(3, .int x_231), (4, .int x_227), (0, .ref m0), (1, .int a), (2, .int b)]) hx hb dX12_canBeRead_126 hl (k := 1) rfl (e_232.symm) (by decide) rfl (fun ls hl => ?_)
            refine lv_goto (tgt := 63) hx hb dX12_canBeRead_129 (by decide) ?_
            exact ih_213 x_231 _ _ _ ⟨(Rg.wk (lo2 := 0) (hi2 := 8) r_233 (by decide)), (by rw [(cN_add (k := 1) e_232 r_221 (Rg.c (c := Int32.ofInt 1) (k := 1) rfl) (by decide))]; exact NH.st iv_215 (fun h9 => absurd (congrArg Int32.toNatClampNeg c_230) h9)), hHe, hlc, hP, lv_sub hl [0, 2, 3, 4] rfl⟩ (ms_up e_232 r_221 (Rg.c (c := Int32.ofInt 1) (k := 1) rfl) (by decide))
          · refine lv_iload hx hb dX12_canBeRead_89 (lv_at hl 0 rfl) ?_
            refine lv_if_lt (tgt := 126) hx hb dX12_canBeRead_91 (by decide) (fun c_234 => ?_) (fun c_234 => ?_)
            · have r_235 : Rg (-1) (-1) x_227 := Rg.lt_l c_234 r_229 (Rg.c (c := 0) (k := 0) rfl) (by decide)
              obtain ⟨x_237, e_238⟩ : ∃ z : Int32, z = v_72 + Int32.ofInt 1 := ⟨_, rfl⟩
              have r_239 : Rg 1 8 x_237 := Rg.add e_238 r_221 (Rg.c (c := Int32.ofInt 1) (k := 1) rfl) (by decide)
              refine lv_iinc (v := x_237) (lv' := [(3, .int x_237), (4, .int x_227), (0, .ref m0), (1, .int a), (2, .int b)]) hx hb dX12_canBeRead_126 hl (k := 1) rfl (e_238.symm) (by decide) rfl (fun ls hl => ?_)
              refine lv_goto (tgt := 63) hx hb dX12_canBeRead_129 (by decide) ?_
              exact ih_213 x_237 _ _ _ ⟨(Rg.wk (lo2 := 0) (hi2 := 8) r_239 (by decide)), (by rw [(cN_add (k := 1) e_238 r_221 (Rg.c (c := Int32.ofInt 1) (k := 1) rfl) (by decide))]; exact NH.st iv_215 (fun _ h9 => absurd (by rw [← (show x_227 = grd (10 + cN v_72) from by rw [e_228, show Int32.toNatClampNeg x_223 = _ from (ix_add (k := 10) e_224 r_221 (by decide) ⟨by decide, rfl⟩)])]; exact c_234) h9)), hHe, hlc, hP, lv_sub hl [0, 2, 3, 4] rfl⟩ (ms_up e_238 r_221 (Rg.c (c := Int32.ofInt 1) (k := 1) rfl) (by decide))
            · have r_236 : Rg 0 7 x_227 := Rg.le_r (nlt_le c_234) (Rg.c (c := 0) (k := 0) rfl) r_229 (by decide)
              refine lv_iload hx hb dX12_canBeRead_94 (lv_at hl 0 rfl) ?_
              refine lv_iload_n hx hb dX12_canBeRead_96 rfl (lv_at hl 4 rfl) ?_
              refine lv_icmp_eq (tgt := 124) hx hb dX12_canBeRead_97 (by decide) (fun c_240 => ?_) (fun c_240 => ?_)
              · refine lv_iconst (v := 0) hx hb dX12_canBeRead_124 (by decide) ?_
                exact W.zret (v := 0) (ty := .boolean) hx hb hr rfl (fun t9 ht9 hW9 => ⟨⟨_, rfl, _, rfl, ⟨⟨by decide, by decide⟩, fun q9 => absurd rfl q9⟩⟩, ht9.trans hHe⟩) (fun _ h9 => by rw [hlc] at h9; exact absurd h9 List.not_mem_nil) dX12_canBeRead_125
              · refine lv_iload hx hb dX12_canBeRead_100 (lv_at hl 0 rfl) ?_
                refine lv_iload_n hx hb dX12_canBeRead_102 rfl (lv_at hl 4 rfl) ?_
                refine w_cut (σ := (Int32)) (fun (v_244 : Int32) H locs ls => Rg 0 1 v_244 ∧ H = s.heap ∧ locs = [] ∧ va_P D vwCl [(m0, .inr (10, (.ref mtp :: .int sta :: .int sru :: .ref msg :: .ref mln :: .ref mcl :: .ref mcs :: .ref mrd :: .int snx :: .int swr :: .int snu :: .int ste :: .int sma :: .int sde :: .int sli :: .ref mop :: .int sod :: .ref mst :: .int sto :: .ref mwd :: .ref msd :: .int sx_ :: .ref mws :: .int sun :: .ref mfr :: .ref mqu :: .ref miw :: .int sfi :: .int swa :: .long sdx :: .ref mim :: .ref mix :: .ref mmd :: []))), (mrd, .inl ((cs 0), 92, .inl grd))] H ∧ lv_has ls 5 [(4, .int x_227), (3, .int v_72), (0, .ref m0), (1, .int a), (2, .int b)]) 111 (fun (v_244 : Int32) => [.int v_244]) ?_ (fun hj_245 => ?_)
                · rintro v_244 H locs ls ⟨r_246, hHe, hlc, hP, hl⟩
                  refine lv_iload_n hx hb dX12_canBeRead_111 rfl (lv_at hl 1 rfl) ?_
                  refine lv_iload_n hx hb dX12_canBeRead_112 rfl (lv_at hl 3 rfl) ?_
                  refine w_cut (σ := (Int32)) (fun (v_250 : Int32) H locs ls => Rg 0 1 v_250 ∧ H = s.heap ∧ locs = [] ∧ va_P D vwCl [(m0, .inr (10, (.ref mtp :: .int sta :: .int sru :: .ref msg :: .ref mln :: .ref mcl :: .ref mcs :: .ref mrd :: .int snx :: .int swr :: .int snu :: .int ste :: .int sma :: .int sde :: .int sli :: .ref mop :: .int sod :: .ref mst :: .int sto :: .ref mwd :: .ref msd :: .int sx_ :: .ref mws :: .int sun :: .ref mfr :: .ref mqu :: .ref miw :: .int sfi :: .int swa :: .long sdx :: .ref mim :: .ref mix :: .ref mmd :: []))), (mrd, .inl ((cs 0), 92, .inl grd))] H ∧ lv_has ls 5 [(4, .int x_227), (3, .int v_72), (0, .ref m0), (1, .int a), (2, .int b)]) 121 (fun (v_250 : Int32) => [.int v_250, .int v_244]) ?_ (fun hj_251 => ?_)
                  · rintro v_250 H locs ls ⟨r_252, hHe, hlc, hP, hl⟩
                    refine lv_icmp_eq (tgt := 126) hx hb dX12_canBeRead_121 (by decide) (fun c_253 => ?_) (fun c_253 => ?_)
                    · obtain ⟨x_254, e_255⟩ : ∃ z : Int32, z = v_72 + Int32.ofInt 1 := ⟨_, rfl⟩
                      have r_256 : Rg 1 8 x_254 := Rg.add e_255 r_221 (Rg.c (c := Int32.ofInt 1) (k := 1) rfl) (by decide)
                      refine lv_iinc (v := x_254) (lv' := [(3, .int x_254), (4, .int x_227), (0, .ref m0), (1, .int a), (2, .int b)]) hx hb dX12_canBeRead_126 hl (k := 1) rfl (e_255.symm) (by decide) rfl (fun ls hl => ?_)
                      refine lv_goto (tgt := 63) hx hb dX12_canBeRead_129 (by decide) ?_
                      exact ih_213 x_254 _ _ _ ⟨(Rg.wk (lo2 := 0) (hi2 := 8) r_256 (by decide)), (by rw [(cN_add (k := 1) e_255 r_221 (Rg.c (c := Int32.ofInt 1) (k := 1) rfl) (by decide))]; exact NH.st iv_215 (fun _ _ h9 => c_240 ((show x_227 = grd (10 + cN v_72) from by rw [e_228, show Int32.toNatClampNeg x_223 = _ from (ix_add (k := 10) e_224 r_221 (by decide) ⟨by decide, rfl⟩)]).trans h9))), hHe, hlc, hP, lv_sub hl [0, 2, 3, 4] rfl⟩ (ms_up e_255 r_221 (Rg.c (c := Int32.ofInt 1) (k := 1) rfl) (by decide))
                    · refine lv_iconst (v := 0) hx hb dX12_canBeRead_124 (by decide) ?_
                      exact W.zret (v := 0) (ty := .boolean) hx hb hr rfl (fun t9 ht9 hW9 => ⟨⟨_, rfl, _, rfl, ⟨⟨by decide, by decide⟩, fun q9 => absurd rfl q9⟩⟩, ht9.trans hHe⟩) (fun _ h9 => by rw [hlc] at h9; exact absurd h9 List.not_mem_nil) dX12_canBeRead_125
                  · refine lv_icmp_ge (tgt := 120) hx hb dX12_canBeRead_113 (by decide) (fun c_247 => ?_) (fun c_247 => ?_)
                    · refine lv_iconst (v := 0) hx hb dX12_canBeRead_120 (by decide) ?_
                      exact hj_251 0 _ _ _ ⟨(Rg.wk (lo2 := 0) (hi2 := 1) (Rg.c (c := 0) (k := 0) rfl) (by decide)), hHe, hlc, hP, lv_sub hl [0, 1, 2, 3, 4] rfl⟩
                    · have r_248 : Rg 0 6 v_72 := Rg.lt_l (nle_lt c_247) r_221 r_a (by decide)
                      have r_249 : Rg 1 7 a := Rg.lt_r (nle_lt c_247) r_221 r_a (by decide)
                      refine lv_iconst (v := 1) hx hb dX12_canBeRead_116 (by decide) ?_
                      refine lv_goto (tgt := 121) hx hb dX12_canBeRead_117 (by decide) ?_
                      exact hj_251 1 _ _ _ ⟨(Rg.wk (lo2 := 0) (hi2 := 1) (Rg.c (c := 1) (k := 1) rfl) (by decide)), hHe, hlc, hP, lv_sub hl [0, 1, 2, 3, 4] rfl⟩
                · refine lv_icmp_ge (tgt := 110) hx hb dX12_canBeRead_103 (by decide) (fun c_241 => ?_) (fun c_241 => ?_)
                  · refine lv_iconst (v := 0) hx hb dX12_canBeRead_110 (by decide) ?_
                    exact hj_245 0 _ _ _ ⟨(Rg.wk (lo2 := 0) (hi2 := 1) (Rg.c (c := 0) (k := 0) rfl) (by decide)), hHe, hlc, hP, lv_sub hl [0, 1, 2, 3, 4] rfl⟩
                  · have r_242 : Rg 0 6 x_227 := Rg.lt_l (nle_lt c_241) r_236 r_b (by decide)
                    have r_243 : Rg 1 7 b := Rg.lt_r (nle_lt c_241) r_236 r_b (by decide)
                    refine lv_iconst (v := 1) hx hb dX12_canBeRead_106 (by decide) ?_
                    refine lv_goto (tgt := 111) hx hb dX12_canBeRead_107 (by decide) ?_
                    exact hj_245 1 _ _ _ ⟨(Rg.wk (lo2 := 0) (hi2 := 1) (Rg.c (c := 1) (k := 1) rfl) (by decide)), hHe, hlc, hP, lv_sub hl [0, 1, 2, 3, 4] rfl⟩
      · refine lv_iconst (v := 0) hx hb dX12_canBeRead_59 (by decide) ?_
        exact W.zret (v := 0) (ty := .boolean) hx hb hr rfl (fun t9 ht9 hW9 => ⟨⟨_, rfl, _, rfl, ⟨⟨by decide, by decide⟩, fun q9 => absurd rfl q9⟩⟩, ht9.trans hHe⟩) (fun _ h9 => by rw [hlc] at h9; exact absurd h9 List.not_mem_nil) dX12_canBeRead_60
theorem dX12_isInHere_0 : decode cX12_isInHere 0 = .ok (.aload_n 0, 1) := by decide +kernel
theorem dX12_isInHere_1 : decode cX12_isInHere 1 = .ok (.invokevirtual 91, 3) := by decide +kernel
theorem dX12_isInHere_4 : decode cX12_isInHere 4 = .ok (.aload_n 0, 1) := by decide +kernel
theorem dX12_isInHere_5 : decode cX12_isInHere 5 = .ok (.iconst 1, 1) := by decide +kernel
theorem dX12_isInHere_6 : decode cX12_isInHere 6 = .ok (.invokevirtual 211, 3) := by decide +kernel
theorem dX12_isInHere_9 : decode cX12_isInHere 9 = .ok (.ifCond .ne 5, 3) := by decide +kernel
theorem dX12_isInHere_14 : decode cX12_isInHere 14 = .ok (.aload_n 0, 1) := by decide +kernel
theorem dX12_isInHere_15 : decode cX12_isInHere 15 = .ok (.getfield 101, 3) := by decide +kernel
theorem dX12_isInHere_18 : decode cX12_isInHere 18 = .ok (.istore_n 1, 1) := by decide +kernel
theorem dX12_isInHere_19 : decode cX12_isInHere 19 = .ok (.aload_n 0, 1) := by decide +kernel
theorem dX12_isInHere_20 : decode cX12_isInHere 20 = .ok (.invokevirtual 79, 3) := by decide +kernel
theorem dX12_isInHere_23 : decode cX12_isInHere 23 = .ok (.pop, 1) := by decide +kernel
theorem dX12_isInHere_24 : decode cX12_isInHere 24 = .ok (.aload_n 0, 1) := by decide +kernel
theorem dX12_isInHere_25 : decode cX12_isInHere 25 = .ok (.getfield 76, 3) := by decide +kernel
theorem dX12_isInHere_28 : decode cX12_isInHere 28 = .ok (.istore_n 2, 1) := by decide +kernel
theorem dX12_isInHere_29 : decode cX12_isInHere 29 = .ok (.aload_n 0, 1) := by decide +kernel
theorem dX12_isInHere_30 : decode cX12_isInHere 30 = .ok (.iconst 0, 1) := by decide +kernel
theorem dX12_isInHere_31 : decode cX12_isInHere 31 = .ok (.aload_n 0, 1) := by decide +kernel
theorem dX12_isInHere_32 : decode cX12_isInHere 32 = .ok (.getfield 26, 3) := by decide +kernel
theorem dX12_isInHere_35 : decode cX12_isInHere 35 = .ok (.iconst 1, 1) := by decide +kernel
theorem dX12_isInHere_36 : decode cX12_isInHere 36 = .ok (.iaload, 1) := by decide +kernel
theorem dX12_isInHere_37 : decode cX12_isInHere 37 = .ok (.iconst 1, 1) := by decide +kernel
theorem dX12_isInHere_38 : decode cX12_isInHere 38 = .ok (.isub, 1) := by decide +kernel
theorem dX12_isInHere_39 : decode cX12_isInHere 39 = .ok (.invokevirtual 153, 3) := by decide +kernel
theorem dX12_isInHere_42 : decode cX12_isInHere 42 = .ok (.ifCond .ne 5, 3) := by decide +kernel
theorem dX12_isInHere_47 : decode cX12_isInHere 47 = .ok (.aload_n 0, 1) := by decide +kernel
theorem dX12_isInHere_48 : decode cX12_isInHere 48 = .ok (.iload_n 1, 1) := by decide +kernel
theorem dX12_isInHere_49 : decode cX12_isInHere 49 = .ok (.aload_n 0, 1) := by decide +kernel
theorem dX12_isInHere_50 : decode cX12_isInHere 50 = .ok (.getfield 101, 3) := by decide +kernel
theorem dX12_isInHere_53 : decode cX12_isInHere 53 = .ok (.invokevirtual 218, 3) := by decide +kernel
theorem qq_6_133 : Cond.code yX12_canBeRead cX12_canBeRead 5 (some .boolean) ∈ TB := mk_tb (ti_6 (List.mem_of_getElem? (i := 133) rfl)) rfl
theorem qq_6_130 : Cond.methodLink "WrongHoleModel" 218 yX12_canBeRead ∈ TB := mk_tb (ti_6 (List.mem_of_getElem? (i := 130) rfl)) rfl
theorem qq_6_132 : Cond.instanceMethod yX12_canBeRead ∈ TB := mk_tb (ti_6 (List.mem_of_getElem? (i := 132) rfl)) rfl
theorem qs_3_5 : Cond.selects "WrongHoleModel" yX12_canBeRead yX12_canBeRead ∈ TB := mk_tb (ti_s (q := (yX12_canBeRead, 33)) (List.mem_append_right _ (List.mem_append_right _ (List.mem_append_right _ (List.mem_append_left _ (List.mem_of_getElem? (i := 5) rfl)))))) rfl
theorem dX12_isInHere_56 : decode cX12_isInHere 56 = .ok (.ifCond .ne 10, 3) := by decide +kernel
theorem dX12_isInHere_66 : decode cX12_isInHere 66 = .ok (.aload_n 0, 1) := by decide +kernel
theorem dX12_isInHere_67 : decode cX12_isInHere 67 = .ok (.getfield 26, 3) := by decide +kernel
theorem dX12_isInHere_70 : decode cX12_isInHere 70 = .ok (.bipush 10, 2) := by decide +kernel
theorem dX12_isInHere_72 : decode cX12_isInHere 72 = .ok (.iload_n 1, 1) := by decide +kernel
theorem dX12_isInHere_73 : decode cX12_isInHere 73 = .ok (.iadd, 1) := by decide +kernel
theorem dX12_isInHere_74 : decode cX12_isInHere 74 = .ok (.aload_n 0, 1) := by decide +kernel
theorem dX12_isInHere_75 : decode cX12_isInHere 75 = .ok (.getfield 101, 3) := by decide +kernel
theorem dX12_isInHere_78 : decode cX12_isInHere 78 = .ok (.iastore, 1) := by decide +kernel
theorem dX12_isInHere_79 : decode cX12_isInHere 79 = .ok (.iconst 1, 1) := by decide +kernel
theorem dX12_isInHere_80 : decode cX12_isInHere 80 = .ok (.ireturn, 1) := by decide +kernel
theorem dX12_isInHere_59 : decode cX12_isInHere 59 = .ok (.aload_n 0, 1) := by decide +kernel
theorem dX12_isInHere_60 : decode cX12_isInHere 60 = .ok (.iconst 1, 1) := by decide +kernel
theorem dX12_isInHere_61 : decode cX12_isInHere 61 = .ok (.iload_n 2, 1) := by decide +kernel
theorem dX12_isInHere_62 : decode cX12_isInHere 62 = .ok (.invokevirtual 97, 3) := by decide +kernel
theorem dX12_isInHere_65 : decode cX12_isInHere 65 = .ok (.ireturn, 1) := by decide +kernel
theorem dX12_isInHere_45 : decode cX12_isInHere 45 = .ok (.iconst 0, 1) := by decide +kernel
theorem dX12_isInHere_46 : decode cX12_isInHere 46 = .ok (.ireturn, 1) := by decide +kernel
theorem dX12_isInHere_12 : decode cX12_isInHere 12 = .ok (.iconst 0, 1) := by decide +kernel
theorem dX12_isInHere_13 : decode cX12_isInHere 13 = .ok (.ireturn, 1) := by decide +kernel
set_option maxHeartbeats 4000000 in
set_option maxRecDepth 100000 in
theorem c_M_isInHere (l : Launch) (D : va_G) (cs : Nat → ClassId) (X : XX) (sz : Nat) (m0 : Nat) (mtp : Nat) (sta : Int32) (sru : Int32) (msg : Nat) (mln : Nat) (mcl : Nat) (mcs : Nat) (mrd : Nat) (snx : Int32) (swr : Int32) (snu : Int32) (ste : Int32) (sma : Int32) (sde : Int32) (sli : Int32) (mop : Nat) (sod : Int32) (mst : Nat) (sto : Int32) (mwd : Nat) (msd : Nat) (sx_ : Int32) (mws : Nat) (sun : Int32) (mfr : Nat) (mqu : Nat) (miw : Nat) (sfi : Int32) (swa : Int32) (sdx : Int64) (mim : Nat) (mix : Nat) (mmd : Nat) (gtp : Nat → Int32) (grd : Nat → Int32) (r_sta : Rg 0 400 sta) (r_snx : Rg 0 400 snx) (hnx : Int32.toInt snx ≤ Int32.toInt sta) (hrk : RK grd) : Met l yX12_isInHere (Cond.code yX12_isInHere cX12_isInHere 3 (some .boolean) :: TB) (RM 3 0 0) (va_Pc [.ref m0] (PRE D cs X [(m0, .inr (10, (.ref mtp :: .int sta :: .int sru :: .ref msg :: .ref mln :: .ref mcl :: .ref mcs :: .ref mrd :: .int snx :: .int swr :: .int snu :: .int ste :: .int sma :: .int sde :: .int sli :: .ref mop :: .int sod :: .ref mst :: .int sto :: .ref mwd :: .ref msd :: .int sx_ :: .ref mws :: .int sun :: .ref mfr :: .ref mqu :: .ref miw :: .int sfi :: .int swa :: .long sdx :: .ref mim :: .ref mix :: .ref mmd :: []))), (mtp, .inl ((cs 2), 400, .inl gtp)), (mrd, .inl ((cs 0), 92, .inl grd))] [] sz)) (va_Qi (S := Int32) (fun r rr => r = rr) (fun rr t => ∃ (snx2 : Int32), ∃ (swr2 : Int32), ∃ (snu2 : Int32), ∃ (grd2 : Nat → Int32), Rg 0 1 rr ∧ (NX sta snx snx2) ∧ (¬ rr = 0 → RK grd2) ∧ (rr = 0 → ¬ swr2 = 0) ∧ va_P D vwCl [(m0, .inr (10, (.ref mtp :: .int sta :: .int sru :: .ref msg :: .ref mln :: .ref mcl :: .ref mcs :: .ref mrd :: .int snx2 :: .int swr2 :: .int snu2 :: .int ste :: .int sma :: .int sde :: .int sli :: .ref mop :: .int sod :: .ref mst :: .int sto :: .ref mwd :: .ref msd :: .int sx_ :: .ref mws :: .int sun :: .ref mfr :: .ref mqu :: .ref miw :: .int sfi :: .int swa :: .long sdx :: .ref mim :: .ref mix :: .ref mmd :: []))), (mtp, .inl ((cs 2), 400, .inl gtp)), (mrd, .inl ((cs 0), 92, .inl grd2))] t.heap ∧ va_D (va_A [(m0, .inr (10, (.ref mtp :: .int sta :: .int sru :: .ref msg :: .ref mln :: .ref mcl :: .ref mcs :: .ref mrd :: .int snx :: .int swr :: .int snu :: .int ste :: .int sma :: .int sde :: .int sli :: .ref mop :: .int sod :: .ref mst :: .int sto :: .ref mwd :: .ref msd :: .int sx_ :: .ref mws :: .int sun :: .ref mfr :: .ref mqu :: .ref miw :: .int sfi :: .int swa :: .long sdx :: .ref mim :: .ref mix :: .ref mmd :: []))), (mtp, .inl ((cs 2), 400, .inl gtp)), (mrd, .inl ((cs 0), 92, .inl grd))] sz) [(m0, .inr (10, (.ref mtp :: .int sta :: .int sru :: .ref msg :: .ref mln :: .ref mcl :: .ref mcs :: .ref mrd :: .int snx2 :: .int swr2 :: .int snu2 :: .int ste :: .int sma :: .int sde :: .int sli :: .ref mop :: .int sod :: .ref mst :: .int sto :: .ref mwd :: .ref msd :: .int sx_ :: .ref mws :: .int sun :: .ref mfr :: .ref mqu :: .ref miw :: .int sfi :: .int swa :: .long sdx :: .ref mim :: .ref mix :: .ref mmd :: []))), (mtp, .inl ((cs 2), 400, .inl gtp)), (mrd, .inl ((cs 0), 92, .inl grd2))]) (va_A [(m0, .inr (10, (.ref mtp :: .int sta :: .int sru :: .ref msg :: .ref mln :: .ref mcl :: .ref mcs :: .ref mrd :: .int snx :: .int swr :: .int snu :: .int ste :: .int sma :: .int sde :: .int sli :: .ref mop :: .int sod :: .ref mst :: .int sto :: .ref mwd :: .ref msd :: .int sx_ :: .ref mws :: .int sun :: .ref mfr :: .ref mqu :: .ref miw :: .int sfi :: .int swa :: .long sdx :: .ref mim :: .ref mix :: .ref mmd :: []))), (mtp, .inl ((cs 2), 400, .inl gtp)), (mrd, .inl ((cs 0), 92, .inl grd))] sz)) 0 0 (va_A [(m0, .inr (10, (.ref mtp :: .int sta :: .int sru :: .ref msg :: .ref mln :: .ref mcl :: .ref mcs :: .ref mrd :: .int snx :: .int swr :: .int snu :: .int ste :: .int sma :: .int sde :: .int sli :: .ref mop :: .int sod :: .ref mst :: .int sto :: .ref mwd :: .ref msd :: .int sx_ :: .ref mws :: .int sun :: .ref mfr :: .ref mqu :: .ref miw :: .int sfi :: .int swa :: .long sdx :: .ref mim :: .ref mix :: .ref mmd :: []))), (mtp, .inl ((cs 2), 400, .inl gtp)), (mrd, .inl ((cs 0), 92, .inl grd))] sz) := by
  refine MET (y := yX12_isInHere) (cc := cX12_isInHere) (maxL := 3) (ret := (some .boolean)) (d := 3) (mc := 0) (ms := 0) (D := D) (cs := cs) (X := X) (ws := [(m0, .inr (10, (.ref mtp :: .int sta :: .int sru :: .ref msg :: .ref mln :: .ref mcl :: .ref mcs :: .ref mrd :: .int snx :: .int swr :: .int snu :: .int ste :: .int sma :: .int sde :: .int sli :: .ref mop :: .int sod :: .ref mst :: .int sto :: .ref mwd :: .ref msd :: .int sx_ :: .ref mws :: .int sun :: .ref mfr :: .ref mqu :: .ref miw :: .int sfi :: .int swa :: .long sdx :: .ref mim :: .ref mix :: .ref mmd :: []))), (mtp, .inl ((cs 2), 400, .inl gtp)), (mrd, .inl ((cs 0), 92, .inl grd))]) (wo := []) (sz := sz) (av := [.ref m0]) (Qc := fun A => va_Qi (S := Int32) (fun r rr => r = rr) (fun rr t => ∃ (snx2 : Int32), ∃ (swr2 : Int32), ∃ (snu2 : Int32), ∃ (grd2 : Nat → Int32), Rg 0 1 rr ∧ (NX sta snx snx2) ∧ (¬ rr = 0 → RK grd2) ∧ (rr = 0 → ¬ swr2 = 0) ∧ va_P D vwCl [(m0, .inr (10, (.ref mtp :: .int sta :: .int sru :: .ref msg :: .ref mln :: .ref mcl :: .ref mcs :: .ref mrd :: .int snx2 :: .int swr2 :: .int snu2 :: .int ste :: .int sma :: .int sde :: .int sli :: .ref mop :: .int sod :: .ref mst :: .int sto :: .ref mwd :: .ref msd :: .int sx_ :: .ref mws :: .int sun :: .ref mfr :: .ref mqu :: .ref miw :: .int sfi :: .int swa :: .long sdx :: .ref mim :: .ref mix :: .ref mmd :: []))), (mtp, .inl ((cs 2), 400, .inl gtp)), (mrd, .inl ((cs 0), 92, .inl grd2))] t.heap ∧ va_D A [(m0, .inr (10, (.ref mtp :: .int sta :: .int sru :: .ref msg :: .ref mln :: .ref mcl :: .ref mcs :: .ref mrd :: .int snx2 :: .int swr2 :: .int snu2 :: .int ste :: .int sma :: .int sde :: .int sli :: .ref mop :: .int sod :: .ref mst :: .int sto :: .ref mwd :: .ref msd :: .int sx_ :: .ref mws :: .int sun :: .ref mfr :: .ref mqu :: .ref miw :: .int sfi :: .int swa :: .long sdx :: .ref mim :: .ref mix :: .ref mmd :: []))), (mtp, .inl ((cs 2), 400, .inl gtp)), (mrd, .inl ((cs 0), 92, .inl grd2))]) A) (by decide) (Nat.le_of_ble_eq_true rfl) ?_
  intro p e s m below meth c ls A H hHe hx hb hr hml hown hts hlocks hnm hP hK hD hA hS hN hR hX hXs hl
  have hD : va_D A [(m0, .inr (10, (.ref mtp :: .int sta :: .int sru :: .ref msg :: .ref mln :: .ref mcl :: .ref mcs :: .ref mrd :: .int snx :: .int swr :: .int snu :: .int ste :: .int sma :: .int sde :: .int sli :: .ref mop :: .int sod :: .ref mst :: .int sto :: .ref mwd :: .ref msd :: .int sx_ :: .ref mws :: .int sun :: .ref mfr :: .ref mqu :: .ref miw :: .int sfi :: .int swa :: .long sdx :: .ref mim :: .ref mix :: .ref mmd :: []))), (mtp, .inl ((cs 2), 400, .inl gtp)), (mrd, .inl ((cs 0), 92, .inl grd))] := hD
  obtain ⟨locs, hlc⟩ : ∃ z : List Loc, z = [] := ⟨_, rfl⟩
  rw [← hlc] at hS ⊢
  have hown : s.vm.findClass "WrongHoleModel" = some m.cls := hown
  have hT : ∀ w ∈ TB, w.before ([.ref m0] : List Value).toArray s = true := fun w h => hts w (List.mem_cons_of_mem _ h)
  have hl : lv_has ls 3 [(0, .ref m0)] := hl
  have hP : va_P D vwCl [(m0, .inr (10, (.ref mtp :: .int sta :: .int sru :: .ref msg :: .ref mln :: .ref mcl :: .ref mcs :: .ref mrd :: .int snx :: .int swr :: .int snu :: .int ste :: .int sma :: .int sde :: .int sli :: .ref mop :: .int sod :: .ref mst :: .int sto :: .ref mwd :: .ref msd :: .int sx_ :: .ref mws :: .int sun :: .ref mfr :: .ref mqu :: .ref miw :: .int sfi :: .int swa :: .long sdx :: .ref mim :: .ref mix :: .ref mmd :: []))), (mtp, .inl ((cs 2), 400, .inl gtp)), (mrd, .inl ((cs 0), 92, .inl grd))] H := hP
  refine lv_aload_n hx hb dX12_isInHere_0 rfl (lv_at hl 0 rfl) ?_
  have hPc := hP.sub (ws' := [(m0, .inr (10, (.ref mtp :: .int sta :: .int sru :: .ref msg :: .ref mln :: .ref mcl :: .ref mcs :: .ref mrd :: .int snx :: .int swr :: .int snu :: .int ste :: .int sma :: .int sde :: .int sli :: .ref mop :: .int sod :: .ref mst :: .int sto :: .ref mwd :: .ref msd :: .int sx_ :: .ref mws :: .int sun :: .ref mfr :: .ref mqu :: .ref miw :: .int sfi :: .int swa :: .long sdx :: .ref mim :: .ref mix :: .ref mmd :: []))), (mtp, .inl ((cs 2), 400, .inl gtp))]) [0, 1] rfl
  have hDc := hD.sub (ws' := [(m0, .inr (10, (.ref mtp :: .int sta :: .int sru :: .ref msg :: .ref mln :: .ref mcl :: .ref mcs :: .ref mrd :: .int snx :: .int swr :: .int snu :: .int ste :: .int sma :: .int sde :: .int sli :: .ref mop :: .int sod :: .ref mst :: .int sto :: .ref mwd :: .ref msd :: .int sx_ :: .ref mws :: .int sun :: .ref mfr :: .ref mqu :: .ref miw :: .int sfi :: .int swa :: .long sdx :: .ref mim :: .ref mix :: .ref mmd :: []))), (mtp, .inl ((cs 2), 400, .inl gtp))]) [0, 1] (by decide) rfl
  have hFc := va_free (wc := [(m0, .inr (10, (.ref mtp :: .int sta :: .int sru :: .ref msg :: .ref mln :: .ref mcl :: .ref mcs :: .ref mrd :: .int snx :: .int swr :: .int snu :: .int ste :: .int sma :: .int sde :: .int sli :: .ref mop :: .int sod :: .ref mst :: .int sto :: .ref mwd :: .ref msd :: .int sx_ :: .ref mws :: .int sun :: .ref mfr :: .ref mqu :: .ref miw :: .int sfi :: .int swa :: .long sdx :: .ref mim :: .ref mix :: .ref mmd :: []))), (mtp, .inl ((cs 2), 400, .inl gtp))]) hD hS hA [0, 1] rfl
  refine va_callv (va_runV (As := []) (rest := []) ⟨hx, hb, hml, hown, hts⟩ (c_M_passWord l D cs X H.size m0 mtp sta sru msg mln mcl mcs mrd snx swr snu ste sma sde sli mop sod mst sto mwd msd sx_ mws sun mfr mqu miw sfi swa sdx mim mix mmd gtp r_sta r_snx hnx) ⟨callB_of 0 hts (gd_C qq_6_82) rfl rfl rfl (hT _ qq_1_9) (hT _ qq_6_79) (by decide +kernel) (rm_R rfl rfl), (hT _ qq_6_81), (hT _ qs_2_9)⟩ (pr_V hPc hK hDc hN (hR.sub (wo' := []) [] rfl) hS hFc hX hXs (ci := 10) (q0 := 0) rfl rfl) rfl rfl hl.1 rfl (lv_room (Nat.le_of_ble_eq_true rfl)) dX12_isInHere_1 ⟨Nat.le_of_ble_eq_true rfl, Nat.le_of_ble_eq_true rfl⟩) hS (fun q _ h => hFc q h) hFc (fun u_1 t_4 H1 locs ht9 hvm hw_2 hB_3 hz1 hk1 hS => ?_)
  obtain ⟨v_6, rp_7, rp_8, hP1, hD1⟩ := hB_3
  rw [ht9] at hP1
  obtain ⟨hP, hD⟩ := va_join (wr := [(mrd, .inl ((cs 0), 92, .inl grd))]) (w1 := [(m0, .inr (10, (.ref mtp :: .int sta :: .int sru :: .ref msg :: .ref mln :: .ref mcl :: .ref mcs :: .ref mrd :: .int v_6 :: .int swr :: .int snu :: .int ste :: .int sma :: .int sde :: .int sli :: .ref mop :: .int sod :: .ref mst :: .int sto :: .ref mwd :: .ref msd :: .int sx_ :: .ref mws :: .int sun :: .ref mfr :: .ref mqu :: .ref miw :: .int sfi :: .int swa :: .long sdx :: .ref mim :: .ref mix :: .ref mmd :: []))), (mtp, .inl ((cs 2), 400, .inl gtp))]) hP hD [0, 1] [2] rfl rfl (by decide) (by decide) hk1 hFc hP1 hD1
  generalize H1 = H at hP hS ⊢
  have hP : va_P D vwCl [(mrd, .inl ((cs 0), 92, .inl grd)), (m0, .inr (10, (.ref mtp :: .int sta :: .int sru :: .ref msg :: .ref mln :: .ref mcl :: .ref mcs :: .ref mrd :: .int v_6 :: .int swr :: .int snu :: .int ste :: .int sma :: .int sde :: .int sli :: .ref mop :: .int sod :: .ref mst :: .int sto :: .ref mwd :: .ref msd :: .int sx_ :: .ref mws :: .int sun :: .ref mfr :: .ref mqu :: .ref miw :: .int sfi :: .int swa :: .long sdx :: .ref mim :: .ref mix :: .ref mmd :: []))), (mtp, .inl ((cs 2), 400, .inl gtp))] H := hP
  have hD : va_D A [(mrd, .inl ((cs 0), 92, .inl grd)), (m0, .inr (10, (.ref mtp :: .int sta :: .int sru :: .ref msg :: .ref mln :: .ref mcl :: .ref mcs :: .ref mrd :: .int v_6 :: .int swr :: .int snu :: .int ste :: .int sma :: .int sde :: .int sli :: .ref mop :: .int sod :: .ref mst :: .int sto :: .ref mwd :: .ref msd :: .int sx_ :: .ref mws :: .int sun :: .ref mfr :: .ref mqu :: .ref miw :: .int sfi :: .int swa :: .long sdx :: .ref mim :: .ref mix :: .ref mmd :: []))), (mtp, .inl ((cs 2), 400, .inl gtp))] := hD
  have r_9 : Rg 0 400 v_6 := rp_7.rg r_snx r_sta
  have hP := hP.sub (ws' := [(m0, .inr (10, (.ref mtp :: .int sta :: .int sru :: .ref msg :: .ref mln :: .ref mcl :: .ref mcs :: .ref mrd :: .int v_6 :: .int swr :: .int snu :: .int ste :: .int sma :: .int sde :: .int sli :: .ref mop :: .int sod :: .ref mst :: .int sto :: .ref mwd :: .ref msd :: .int sx_ :: .ref mws :: .int sun :: .ref mfr :: .ref mqu :: .ref miw :: .int sfi :: .int swa :: .long sdx :: .ref mim :: .ref mix :: .ref mmd :: []))), (mtp, .inl ((cs 2), 400, .inl gtp)), (mrd, .inl ((cs 0), 92, .inl grd))]) [1, 2, 0] rfl
  have hD := hD.sub (ws' := [(m0, .inr (10, (.ref mtp :: .int sta :: .int sru :: .ref msg :: .ref mln :: .ref mcl :: .ref mcs :: .ref mrd :: .int v_6 :: .int swr :: .int snu :: .int ste :: .int sma :: .int sde :: .int sli :: .ref mop :: .int sod :: .ref mst :: .int sto :: .ref mwd :: .ref msd :: .int sx_ :: .ref mws :: .int sun :: .ref mfr :: .ref mqu :: .ref miw :: .int sfi :: .int swa :: .long sdx :: .ref mim :: .ref mix :: .ref mmd :: []))), (mtp, .inl ((cs 2), 400, .inl gtp)), (mrd, .inl ((cs 0), 92, .inl grd))]) [1, 2, 0] (by decide) rfl
  refine lv_aload_n hx hb dX12_isInHere_4 rfl (lv_at hl 0 rfl) ?_
  refine lv_iconst (v := 1) hx hb dX12_isInHere_5 (by decide) ?_
  have hPc := hP.sub (ws' := [(m0, .inr (10, (.ref mtp :: .int sta :: .int sru :: .ref msg :: .ref mln :: .ref mcl :: .ref mcs :: .ref mrd :: .int v_6 :: .int swr :: .int snu :: .int ste :: .int sma :: .int sde :: .int sli :: .ref mop :: .int sod :: .ref mst :: .int sto :: .ref mwd :: .ref msd :: .int sx_ :: .ref mws :: .int sun :: .ref mfr :: .ref mqu :: .ref miw :: .int sfi :: .int swa :: .long sdx :: .ref mim :: .ref mix :: .ref mmd :: []))), (mtp, .inl ((cs 2), 400, .inl gtp)), (mrd, .inl ((cs 0), 92, .inl grd))]) [0, 1, 2] rfl
  have hDc := hD.sub (ws' := [(m0, .inr (10, (.ref mtp :: .int sta :: .int sru :: .ref msg :: .ref mln :: .ref mcl :: .ref mcs :: .ref mrd :: .int v_6 :: .int swr :: .int snu :: .int ste :: .int sma :: .int sde :: .int sli :: .ref mop :: .int sod :: .ref mst :: .int sto :: .ref mwd :: .ref msd :: .int sx_ :: .ref mws :: .int sun :: .ref mfr :: .ref mqu :: .ref miw :: .int sfi :: .int swa :: .long sdx :: .ref mim :: .ref mix :: .ref mmd :: []))), (mtp, .inl ((cs 2), 400, .inl gtp)), (mrd, .inl ((cs 0), 92, .inl grd))]) [0, 1, 2] (by decide) rfl
  have hFc := va_free (wc := [(m0, .inr (10, (.ref mtp :: .int sta :: .int sru :: .ref msg :: .ref mln :: .ref mcl :: .ref mcs :: .ref mrd :: .int v_6 :: .int swr :: .int snu :: .int ste :: .int sma :: .int sde :: .int sli :: .ref mop :: .int sod :: .ref mst :: .int sto :: .ref mwd :: .ref msd :: .int sx_ :: .ref mws :: .int sun :: .ref mfr :: .ref mqu :: .ref miw :: .int sfi :: .int swa :: .long sdx :: .ref mim :: .ref mix :: .ref mmd :: []))), (mtp, .inl ((cs 2), 400, .inl gtp)), (mrd, .inl ((cs 0), 92, .inl grd))]) hD hS hA [0, 1, 2] rfl
  refine va_calli (va_runV (As := [.int 1]) (rest := []) ⟨hx, hb, hml, hown, hts⟩ (c_M_buttonHere l D cs X H.size m0 mtp sta sru msg mln mcl mcs mrd v_6 swr snu ste sma sde sli mop sod mst sto mwd msd sx_ mws sun mfr mqu miw sfi swa sdx mim mix mmd gtp grd 1 r_sta r_9 rp_7.2 hrk (Rg.wk (lo2 := 0) (hi2 := 1) (Rg.c (c := 1) (k := 1) rfl) (by decide))) ⟨callB_of 1 hts (gd_C qq_6_105) rfl rfl rfl (hT _ qq_1_9) (hT _ qq_6_102) (by decide +kernel) (rm_R rfl rfl), (hT _ qq_6_104), (hT _ qs_2_14)⟩ (pr_V hPc hK hDc hN (hR.sub (wo' := []) [] rfl) hS hFc hX hXs (ci := 10) (q0 := 0) rfl rfl) rfl rfl hl.1 rfl (lv_room (Nat.le_of_ble_eq_true rfl)) dX12_isInHere_6 ⟨Nat.le_of_ble_eq_true rfl, Nat.le_of_ble_eq_true rfl⟩) hS (fun q _ h => hFc q h) hFc (fun x_14 u_10 t_13 H1 locs ht9 hvm hw_11 hB_12 hz1 hk1 hS => ?_)
  obtain ⟨v_15, v_16, v_17, r_18, rp_19, rp_20, rp_21, hP1, hD1⟩ := hB_12
  rw [ht9] at hP1
  obtain ⟨hP, hD⟩ := va_join (wr := []) (w1 := [(m0, .inr (10, (.ref mtp :: .int sta :: .int sru :: .ref msg :: .ref mln :: .ref mcl :: .ref mcs :: .ref mrd :: .int v_15 :: .int v_16 :: .int v_17 :: .int ste :: .int sma :: .int sde :: .int sli :: .ref mop :: .int sod :: .ref mst :: .int sto :: .ref mwd :: .ref msd :: .int sx_ :: .ref mws :: .int sun :: .ref mfr :: .ref mqu :: .ref miw :: .int sfi :: .int swa :: .long sdx :: .ref mim :: .ref mix :: .ref mmd :: []))), (mtp, .inl ((cs 2), 400, .inl gtp)), (mrd, .inl ((cs 0), 92, .inl grd))]) hP hD [0, 1, 2] [] rfl rfl (by decide) (by decide) hk1 hFc hP1 hD1
  generalize H1 = H at hP hS ⊢
  have hP : va_P D vwCl [(m0, .inr (10, (.ref mtp :: .int sta :: .int sru :: .ref msg :: .ref mln :: .ref mcl :: .ref mcs :: .ref mrd :: .int v_15 :: .int v_16 :: .int v_17 :: .int ste :: .int sma :: .int sde :: .int sli :: .ref mop :: .int sod :: .ref mst :: .int sto :: .ref mwd :: .ref msd :: .int sx_ :: .ref mws :: .int sun :: .ref mfr :: .ref mqu :: .ref miw :: .int sfi :: .int swa :: .long sdx :: .ref mim :: .ref mix :: .ref mmd :: []))), (mtp, .inl ((cs 2), 400, .inl gtp)), (mrd, .inl ((cs 0), 92, .inl grd))] H := hP
  have hD : va_D A [(m0, .inr (10, (.ref mtp :: .int sta :: .int sru :: .ref msg :: .ref mln :: .ref mcl :: .ref mcs :: .ref mrd :: .int v_15 :: .int v_16 :: .int v_17 :: .int ste :: .int sma :: .int sde :: .int sli :: .ref mop :: .int sod :: .ref mst :: .int sto :: .ref mwd :: .ref msd :: .int sx_ :: .ref mws :: .int sun :: .ref mfr :: .ref mqu :: .ref miw :: .int sfi :: .int swa :: .long sdx :: .ref mim :: .ref mix :: .ref mmd :: []))), (mtp, .inl ((cs 2), 400, .inl gtp)), (mrd, .inl ((cs 0), 92, .inl grd))] := hD
  have r_22 : Rg 0 400 v_15 := rp_19.rg r_9 r_sta
  refine lv_if_ne (tgt := 14) hx hb dX12_isInHere_9 (by decide) (fun c_23 => ?_) (fun c_23 => ?_)
  · have r_24 : Rg 1 1 x_14 := Rg.ne c_23 (Rg.of hw_11 r_18) (Rg.c (c := 0) (k := 0) rfl) (by decide)
    have r_25 : Rg 0 7 v_17 := (rp_20 (fun q9 => c_23 (hw_11.trans q9)))
    refine lv_aload_n hx hb dX12_isInHere_14 rfl (lv_at hl 0 rfl) ?_
    refine va_get (D := D) (ci := 10) (v := .int v_17) (C := "WrongHoleModel") (T := TX12) (N := 33) hx hb hts (iq_RX12 _) hown hK hP 0 rfl rfl 10 (by decide) (hT _ qq_5_162) (fun _ h9 => h9) rfl dX12_isInHere_15 ?_
    refine lv_istore_n (lv' := [(1, .int v_17), (0, .ref m0)]) hx hb dX12_isInHere_18 rfl hl (by decide) rfl (fun ls hl => ?_)
    refine lv_aload_n hx hb dX12_isInHere_19 rfl (lv_at hl 1 rfl) ?_
    have hPc := hP.sub (ws' := [(m0, .inr (10, (.ref mtp :: .int sta :: .int sru :: .ref msg :: .ref mln :: .ref mcl :: .ref mcs :: .ref mrd :: .int v_15 :: .int v_16 :: .int v_17 :: .int ste :: .int sma :: .int sde :: .int sli :: .ref mop :: .int sod :: .ref mst :: .int sto :: .ref mwd :: .ref msd :: .int sx_ :: .ref mws :: .int sun :: .ref mfr :: .ref mqu :: .ref miw :: .int sfi :: .int swa :: .long sdx :: .ref mim :: .ref mix :: .ref mmd :: []))), (mtp, .inl ((cs 2), 400, .inl gtp))]) [0, 1] rfl
    have hDc := hD.sub (ws' := [(m0, .inr (10, (.ref mtp :: .int sta :: .int sru :: .ref msg :: .ref mln :: .ref mcl :: .ref mcs :: .ref mrd :: .int v_15 :: .int v_16 :: .int v_17 :: .int ste :: .int sma :: .int sde :: .int sli :: .ref mop :: .int sod :: .ref mst :: .int sto :: .ref mwd :: .ref msd :: .int sx_ :: .ref mws :: .int sun :: .ref mfr :: .ref mqu :: .ref miw :: .int sfi :: .int swa :: .long sdx :: .ref mim :: .ref mix :: .ref mmd :: []))), (mtp, .inl ((cs 2), 400, .inl gtp))]) [0, 1] (by decide) rfl
    have hFc := va_free (wc := [(m0, .inr (10, (.ref mtp :: .int sta :: .int sru :: .ref msg :: .ref mln :: .ref mcl :: .ref mcs :: .ref mrd :: .int v_15 :: .int v_16 :: .int v_17 :: .int ste :: .int sma :: .int sde :: .int sli :: .ref mop :: .int sod :: .ref mst :: .int sto :: .ref mwd :: .ref msd :: .int sx_ :: .ref mws :: .int sun :: .ref mfr :: .ref mqu :: .ref miw :: .int sfi :: .int swa :: .long sdx :: .ref mim :: .ref mix :: .ref mmd :: []))), (mtp, .inl ((cs 2), 400, .inl gtp))]) hD hS hA [0, 1] rfl
    refine va_calli (va_runV (As := []) (rest := []) ⟨hx, hb, hml, hown, hts⟩ (c_M_see l D cs X H.size m0 mtp sta sru msg mln mcl mcs mrd v_15 v_16 v_17 ste sma sde sli mop sod mst sto mwd msd sx_ mws sun mfr mqu miw sfi swa sdx mim mix mmd gtp r_sta r_22 rp_19.2) ⟨callB_of 0 hts (gd_C qq_6_40) rfl rfl rfl (hT _ qq_1_9) (hT _ qq_6_37) (by decide +kernel) (rm_R rfl rfl), (hT _ qq_6_39), (hT _ qs_2_2)⟩ (pr_V hPc hK hDc hN (hR.sub (wo' := []) [] rfl) hS hFc hX hXs (ci := 10) (q0 := 0) rfl rfl) rfl rfl hl.1 rfl (lv_room (Nat.le_of_ble_eq_true rfl)) dX12_isInHere_20 ⟨Nat.le_of_ble_eq_true rfl, Nat.le_of_ble_eq_true rfl⟩) hS (fun q _ h => hFc q h) hFc (fun x_31 u_27 t_30 H1 locs ht9 hvm hw_28 hB_29 hz1 hk1 hS => ?_)
    obtain ⟨v_32, r_33, rp_34, rp_35, rp_36, rp_37, hP1, hD1⟩ := hB_29
    rw [ht9] at hP1
    obtain ⟨hP, hD⟩ := va_join (wr := [(mrd, .inl ((cs 0), 92, .inl grd))]) (w1 := [(m0, .inr (10, (.ref mtp :: .int sta :: .int sru :: .ref msg :: .ref mln :: .ref mcl :: .ref mcs :: .ref mrd :: .int v_32 :: .int v_16 :: .int v_17 :: .int ste :: .int sma :: .int sde :: .int sli :: .ref mop :: .int sod :: .ref mst :: .int sto :: .ref mwd :: .ref msd :: .int sx_ :: .ref mws :: .int sun :: .ref mfr :: .ref mqu :: .ref miw :: .int sfi :: .int swa :: .long sdx :: .ref mim :: .ref mix :: .ref mmd :: []))), (mtp, .inl ((cs 2), 400, .inl gtp))]) hP hD [0, 1] [2] rfl rfl (by decide) (by decide) hk1 hFc hP1 hD1
    generalize H1 = H at hP hS ⊢
    have hP : va_P D vwCl [(mrd, .inl ((cs 0), 92, .inl grd)), (m0, .inr (10, (.ref mtp :: .int sta :: .int sru :: .ref msg :: .ref mln :: .ref mcl :: .ref mcs :: .ref mrd :: .int v_32 :: .int v_16 :: .int v_17 :: .int ste :: .int sma :: .int sde :: .int sli :: .ref mop :: .int sod :: .ref mst :: .int sto :: .ref mwd :: .ref msd :: .int sx_ :: .ref mws :: .int sun :: .ref mfr :: .ref mqu :: .ref miw :: .int sfi :: .int swa :: .long sdx :: .ref mim :: .ref mix :: .ref mmd :: []))), (mtp, .inl ((cs 2), 400, .inl gtp))] H := hP
    have hD : va_D A [(mrd, .inl ((cs 0), 92, .inl grd)), (m0, .inr (10, (.ref mtp :: .int sta :: .int sru :: .ref msg :: .ref mln :: .ref mcl :: .ref mcs :: .ref mrd :: .int v_32 :: .int v_16 :: .int v_17 :: .int ste :: .int sma :: .int sde :: .int sli :: .ref mop :: .int sod :: .ref mst :: .int sto :: .ref mwd :: .ref msd :: .int sx_ :: .ref mws :: .int sun :: .ref mfr :: .ref mqu :: .ref miw :: .int sfi :: .int swa :: .long sdx :: .ref mim :: .ref mix :: .ref mmd :: []))), (mtp, .inl ((cs 2), 400, .inl gtp))] := hD
    have r_38 : Rg 0 400 v_32 := rp_34.rg r_22 r_sta
    have hP := hP.sub (ws' := [(m0, .inr (10, (.ref mtp :: .int sta :: .int sru :: .ref msg :: .ref mln :: .ref mcl :: .ref mcs :: .ref mrd :: .int v_32 :: .int v_16 :: .int v_17 :: .int ste :: .int sma :: .int sde :: .int sli :: .ref mop :: .int sod :: .ref mst :: .int sto :: .ref mwd :: .ref msd :: .int sx_ :: .ref mws :: .int sun :: .ref mfr :: .ref mqu :: .ref miw :: .int sfi :: .int swa :: .long sdx :: .ref mim :: .ref mix :: .ref mmd :: []))), (mtp, .inl ((cs 2), 400, .inl gtp)), (mrd, .inl ((cs 0), 92, .inl grd))]) [1, 2, 0] rfl
    have hD := hD.sub (ws' := [(m0, .inr (10, (.ref mtp :: .int sta :: .int sru :: .ref msg :: .ref mln :: .ref mcl :: .ref mcs :: .ref mrd :: .int v_32 :: .int v_16 :: .int v_17 :: .int ste :: .int sma :: .int sde :: .int sli :: .ref mop :: .int sod :: .ref mst :: .int sto :: .ref mwd :: .ref msd :: .int sx_ :: .ref mws :: .int sun :: .ref mfr :: .ref mqu :: .ref miw :: .int sfi :: .int swa :: .long sdx :: .ref mim :: .ref mix :: .ref mmd :: []))), (mtp, .inl ((cs 2), 400, .inl gtp)), (mrd, .inl ((cs 0), 92, .inl grd))]) [1, 2, 0] (by decide) rfl
    refine lv_pop hx hb dX12_isInHere_23 rfl ?_
    refine lv_aload_n hx hb dX12_isInHere_24 rfl (lv_at hl 1 rfl) ?_
    refine va_get (D := D) (ci := 10) (v := .int v_32) (C := "WrongHoleModel") (T := TX12) (N := 33) hx hb hts (iq_RX12 _) hown hK hP 0 rfl rfl 8 (by decide) (hT _ qq_5_160) (fun _ h9 => h9) rfl dX12_isInHere_25 ?_
    refine lv_istore_n (lv' := [(2, .int v_32), (1, .int v_17), (0, .ref m0)]) hx hb dX12_isInHere_28 rfl hl (by decide) rfl (fun ls hl => ?_)
    refine lv_aload_n hx hb dX12_isInHere_29 rfl (lv_at hl 2 rfl) ?_
    refine lv_iconst (v := 0) hx hb dX12_isInHere_30 (by decide) ?_
    refine lv_aload_n hx hb dX12_isInHere_31 rfl (lv_at hl 2 rfl) ?_
    refine va_get (D := D) (ci := 10) (v := .ref mrd) (C := "WrongHoleModel") (T := TX12) (N := 33) hx hb hts (iq_RX12 _) hown hK hP 0 rfl rfl 7 (by decide) (hT _ qq_5_159) (fun _ h9 => h9) rfl dX12_isInHere_32 ?_
    refine lv_iconst (v := 1) hx hb dX12_isInHere_35 (by decide) ?_
    have hi_39 : vp_in 1 92 := vi_c rfl
    refine va_iald hx hb hK hP 2 0 rfl rfl hi_39 dX12_isInHere_36 ?_
    refine lv_topi (fun x_40 e_41 => ?_)
    have r_42 : Rg 0 8 x_40 := Rg.of e_41 (hrk.c1)
    refine lv_iconst (v := 1) hx hb dX12_isInHere_37 (by decide) ?_
    refine lv_isub hx hb dX12_isInHere_38 ?_
    refine lv_topi (fun x_43 e_44 => ?_)
    have r_45 : Rg (-1) 7 x_43 := Rg.sub e_44 r_42 (Rg.c (c := 1) (k := 1) rfl) (by decide)
    have hPc := hP.sub (ws' := [(m0, .inr (10, (.ref mtp :: .int sta :: .int sru :: .ref msg :: .ref mln :: .ref mcl :: .ref mcs :: .ref mrd :: .int v_32 :: .int v_16 :: .int v_17 :: .int ste :: .int sma :: .int sde :: .int sli :: .ref mop :: .int sod :: .ref mst :: .int sto :: .ref mwd :: .ref msd :: .int sx_ :: .ref mws :: .int sun :: .ref mfr :: .ref mqu :: .ref miw :: .int sfi :: .int swa :: .long sdx :: .ref mim :: .ref mix :: .ref mmd :: []))), (mtp, .inl ((cs 2), 400, .inl gtp))]) [0, 1] rfl
    have hDc := hD.sub (ws' := [(m0, .inr (10, (.ref mtp :: .int sta :: .int sru :: .ref msg :: .ref mln :: .ref mcl :: .ref mcs :: .ref mrd :: .int v_32 :: .int v_16 :: .int v_17 :: .int ste :: .int sma :: .int sde :: .int sli :: .ref mop :: .int sod :: .ref mst :: .int sto :: .ref mwd :: .ref msd :: .int sx_ :: .ref mws :: .int sun :: .ref mfr :: .ref mqu :: .ref miw :: .int sfi :: .int swa :: .long sdx :: .ref mim :: .ref mix :: .ref mmd :: []))), (mtp, .inl ((cs 2), 400, .inl gtp))]) [0, 1] (by decide) rfl
    have hFc := va_free (wc := [(m0, .inr (10, (.ref mtp :: .int sta :: .int sru :: .ref msg :: .ref mln :: .ref mcl :: .ref mcs :: .ref mrd :: .int v_32 :: .int v_16 :: .int v_17 :: .int ste :: .int sma :: .int sde :: .int sli :: .ref mop :: .int sod :: .ref mst :: .int sto :: .ref mwd :: .ref msd :: .int sx_ :: .ref mws :: .int sun :: .ref mfr :: .ref mqu :: .ref miw :: .int sfi :: .int swa :: .long sdx :: .ref mim :: .ref mix :: .ref mmd :: []))), (mtp, .inl ((cs 2), 400, .inl gtp))]) hD hS hA [0, 1] rfl
    refine va_calli (va_runV (As := [.int 0, .int x_43]) (rest := []) ⟨hx, hb, hml, hown, hts⟩ (c_M_numberHere l D cs X H.size m0 mtp sta sru msg mln mcl mcs mrd v_32 v_16 v_17 ste sma sde sli mop sod mst sto mwd msd sx_ mws sun mfr mqu miw sfi swa sdx mim mix mmd gtp 0 x_43 r_sta r_38 rp_34.2) ⟨callB_of 2 hts (gd_C qq_6_90) rfl rfl rfl (hT _ qq_1_9) (hT _ qq_6_87) (by decide +kernel) (rm_R rfl rfl), (hT _ qq_6_89), (hT _ qs_2_11)⟩ (pr_V hPc hK hDc hN (hR.sub (wo' := []) [] rfl) hS hFc hX hXs (ci := 10) (q0 := 0) rfl rfl) rfl rfl hl.1 rfl (lv_room (Nat.le_of_ble_eq_true rfl)) dX12_isInHere_39 ⟨Nat.le_of_ble_eq_true rfl, Nat.le_of_ble_eq_true rfl⟩) hS (fun q _ h => hFc q h) hFc (fun x_50 u_46 t_49 H1 locs ht9 hvm hw_47 hB_48 hz1 hk1 hS => ?_)
    obtain ⟨v_51, v_52, v_53, r_54, rp_55, rp_56, rp_57, hP1, hD1⟩ := hB_48
    rw [ht9] at hP1
    obtain ⟨hP, hD⟩ := va_join (wr := [(mrd, .inl ((cs 0), 92, .inl grd))]) (w1 := [(m0, .inr (10, (.ref mtp :: .int sta :: .int sru :: .ref msg :: .ref mln :: .ref mcl :: .ref mcs :: .ref mrd :: .int v_51 :: .int v_52 :: .int v_53 :: .int ste :: .int sma :: .int sde :: .int sli :: .ref mop :: .int sod :: .ref mst :: .int sto :: .ref mwd :: .ref msd :: .int sx_ :: .ref mws :: .int sun :: .ref mfr :: .ref mqu :: .ref miw :: .int sfi :: .int swa :: .long sdx :: .ref mim :: .ref mix :: .ref mmd :: []))), (mtp, .inl ((cs 2), 400, .inl gtp))]) hP hD [0, 1] [2] rfl rfl (by decide) (by decide) hk1 hFc hP1 hD1
    generalize H1 = H at hP hS ⊢
    have hP : va_P D vwCl [(mrd, .inl ((cs 0), 92, .inl grd)), (m0, .inr (10, (.ref mtp :: .int sta :: .int sru :: .ref msg :: .ref mln :: .ref mcl :: .ref mcs :: .ref mrd :: .int v_51 :: .int v_52 :: .int v_53 :: .int ste :: .int sma :: .int sde :: .int sli :: .ref mop :: .int sod :: .ref mst :: .int sto :: .ref mwd :: .ref msd :: .int sx_ :: .ref mws :: .int sun :: .ref mfr :: .ref mqu :: .ref miw :: .int sfi :: .int swa :: .long sdx :: .ref mim :: .ref mix :: .ref mmd :: []))), (mtp, .inl ((cs 2), 400, .inl gtp))] H := hP
    have hD : va_D A [(mrd, .inl ((cs 0), 92, .inl grd)), (m0, .inr (10, (.ref mtp :: .int sta :: .int sru :: .ref msg :: .ref mln :: .ref mcl :: .ref mcs :: .ref mrd :: .int v_51 :: .int v_52 :: .int v_53 :: .int ste :: .int sma :: .int sde :: .int sli :: .ref mop :: .int sod :: .ref mst :: .int sto :: .ref mwd :: .ref msd :: .int sx_ :: .ref mws :: .int sun :: .ref mfr :: .ref mqu :: .ref miw :: .int sfi :: .int swa :: .long sdx :: .ref mim :: .ref mix :: .ref mmd :: []))), (mtp, .inl ((cs 2), 400, .inl gtp))] := hD
    have r_58 : Rg 0 400 v_51 := rp_55.rg r_38 r_sta
    have hP := hP.sub (ws' := [(m0, .inr (10, (.ref mtp :: .int sta :: .int sru :: .ref msg :: .ref mln :: .ref mcl :: .ref mcs :: .ref mrd :: .int v_51 :: .int v_52 :: .int v_53 :: .int ste :: .int sma :: .int sde :: .int sli :: .ref mop :: .int sod :: .ref mst :: .int sto :: .ref mwd :: .ref msd :: .int sx_ :: .ref mws :: .int sun :: .ref mfr :: .ref mqu :: .ref miw :: .int sfi :: .int swa :: .long sdx :: .ref mim :: .ref mix :: .ref mmd :: []))), (mtp, .inl ((cs 2), 400, .inl gtp)), (mrd, .inl ((cs 0), 92, .inl grd))]) [1, 2, 0] rfl
    have hD := hD.sub (ws' := [(m0, .inr (10, (.ref mtp :: .int sta :: .int sru :: .ref msg :: .ref mln :: .ref mcl :: .ref mcs :: .ref mrd :: .int v_51 :: .int v_52 :: .int v_53 :: .int ste :: .int sma :: .int sde :: .int sli :: .ref mop :: .int sod :: .ref mst :: .int sto :: .ref mwd :: .ref msd :: .int sx_ :: .ref mws :: .int sun :: .ref mfr :: .ref mqu :: .ref miw :: .int sfi :: .int swa :: .long sdx :: .ref mim :: .ref mix :: .ref mmd :: []))), (mtp, .inl ((cs 2), 400, .inl gtp)), (mrd, .inl ((cs 0), 92, .inl grd))]) [1, 2, 0] (by decide) rfl
    refine lv_if_ne (tgt := 47) hx hb dX12_isInHere_42 (by decide) (fun c_59 => ?_) (fun c_59 => ?_)
    · have r_60 : Rg 1 1 x_50 := Rg.ne c_59 (Rg.of hw_47 r_54) (Rg.c (c := 0) (k := 0) rfl) (by decide)
      have r_61 : Rg 0 7 v_53 := ⟨Int.le_trans ((Rg.c (c := 0) (k := 0) rfl)).1 (rp_56 (fun q9 => c_59 (hw_47.trans q9))).2.1, Int.le_trans (rp_56 (fun q9 => c_59 (hw_47.trans q9))).2.2 (r_45).2⟩
      refine lv_aload_n hx hb dX12_isInHere_47 rfl (lv_at hl 2 rfl) ?_
      refine lv_iload_n hx hb dX12_isInHere_48 rfl (lv_at hl 1 rfl) ?_
      refine lv_aload_n hx hb dX12_isInHere_49 rfl (lv_at hl 2 rfl) ?_
      refine va_get (D := D) (ci := 10) (v := .int v_53) (C := "WrongHoleModel") (T := TX12) (N := 33) hx hb hts (iq_RX12 _) hown hK hP 0 rfl rfl 10 (by decide) (hT _ qq_5_162) (fun _ h9 => h9) rfl dX12_isInHere_50 ?_
      have hPc := va_P.sub (ws' := [(m0, .inr (10, (.ref mtp :: .int sta :: .int sru :: .ref msg :: .ref mln :: .ref mcl :: .ref mcs :: .ref mrd :: .int v_51 :: .int v_52 :: .int v_53 :: .int ste :: .int sma :: .int sde :: .int sli :: .ref mop :: .int sod :: .ref mst :: .int sto :: .ref mwd :: .ref msd :: .int sx_ :: .ref mws :: .int sun :: .ref mfr :: .ref mqu :: .ref miw :: .int sfi :: .int swa :: .long sdx :: .ref mim :: .ref mix :: .ref mmd :: []))), (mrd, .inl ((cs 0), 92, .inl grd))]) hP [0, 2] rfl
      refine cl_P (W.runV (As := [.int v_17, .int v_53]) (rest := []) ⟨hx, hb, hml, hown, hts⟩ (c_M_canBeRead l D cs m0 mtp sta sru msg mln mcl mcs mrd v_51 v_52 v_53 ste sma sde sli mop sod mst sto mwd msd sx_ mws sun mfr mqu miw sfi swa sdx mim mix mmd grd v_17 v_53 hrk r_25 r_61) ⟨callB_of 2 hts (gd_C qq_6_133) rfl rfl rfl (hT _ qq_1_9) (hT _ qq_6_130) (by decide +kernel) (rm_R rfl rfl), (hT _ qq_6_132), (hT _ qs_3_5)⟩ (pq_V hPc hK hN (ci := 10) (q0 := 0) rfl rfl) rfl rfl hl.1 rfl (lv_room (Nat.le_of_ble_eq_true rfl)) dX12_isInHere_53 ⟨Nat.le_of_ble_eq_true rfl, Nat.le_of_ble_eq_true rfl⟩) (fun v9 hz_64 => ?_)
      obtain ⟨x_63, rfl, r_65⟩ := hz_64
      refine lv_if_ne (tgt := 66) hx hb dX12_isInHere_56 (by decide) (fun c_66 => ?_) (fun c_66 => ?_)
      · have r_67 : Rg 1 1 x_63 := Rg.ne c_66 r_65.1 (Rg.c (c := 0) (k := 0) rfl) (by decide)
        refine lv_aload_n hx hb dX12_isInHere_66 rfl (lv_at hl 2 rfl) ?_
        refine va_get (D := D) (ci := 10) (v := .ref mrd) (C := "WrongHoleModel") (T := TX12) (N := 33) hx hb hts (iq_RX12 _) hown hK hP 0 rfl rfl 7 (by decide) (hT _ qq_5_159) (fun _ h9 => h9) rfl dX12_isInHere_67 ?_
        refine lv_bipush (v := 10) hx hb dX12_isInHere_70 (by decide) ?_
        refine lv_iload_n hx hb dX12_isInHere_72 rfl (lv_at hl 1 rfl) ?_
        refine lv_iadd hx hb dX12_isInHere_73 ?_
        refine lv_topi (fun x_69 e_70 => ?_)
        have r_71 : Rg 10 17 x_69 := Rg.add e_70 (Rg.c (c := 10) (k := 10) rfl) r_25 (by decide)
        refine lv_aload_n hx hb dX12_isInHere_74 rfl (lv_at hl 2 rfl) ?_
        refine va_get (D := D) (ci := 10) (v := .int v_53) (C := "WrongHoleModel") (T := TX12) (N := 33) hx hb hts (iq_RX12 _) hown hK hP 0 rfl rfl 10 (by decide) (hT _ qq_5_162) (fun _ h9 => h9) rfl dX12_isInHere_75 ?_
        have hi_72 : vp_in x_69 92 := Rg.in r_71 (by decide)
        refine va_iast hx hb hK hP hD hS 2 0 rfl rfl hi_72 dX12_isInHere_78 (fun H locs hP hD hS => ?_)
        obtain ⟨g_73, rb_74, hP, hD⟩ : ∃ g_73 : Nat → Int32, (RK g_73) ∧ va_P D vwCl [(m0, .inr (10, (.ref mtp :: .int sta :: .int sru :: .ref msg :: .ref mln :: .ref mcl :: .ref mcs :: .ref mrd :: .int v_51 :: .int v_52 :: .int v_53 :: .int ste :: .int sma :: .int sde :: .int sli :: .ref mop :: .int sod :: .ref mst :: .int sto :: .ref mwd :: .ref msd :: .int sx_ :: .ref mws :: .int sun :: .ref mfr :: .ref mqu :: .ref miw :: .int sfi :: .int swa :: .long sdx :: .ref mim :: .ref mix :: .ref mmd :: []))), (mtp, .inl ((cs 2), 400, .inl gtp)), (mrd, .inl ((cs 0), 92, .inl g_73))] H ∧ va_D A [(m0, .inr (10, (.ref mtp :: .int sta :: .int sru :: .ref msg :: .ref mln :: .ref mcl :: .ref mcs :: .ref mrd :: .int v_51 :: .int v_52 :: .int v_53 :: .int ste :: .int sma :: .int sde :: .int sli :: .ref mop :: .int sod :: .ref mst :: .int sto :: .ref mwd :: .ref msd :: .int sx_ :: .ref mws :: .int sun :: .ref mfr :: .ref mqu :: .ref miw :: .int sfi :: .int swa :: .long sdx :: .ref mim :: .ref mix :: .ref mmd :: []))), (mtp, .inl ((cs 2), 400, .inl gtp)), (mrd, .inl ((cs 0), 92, .inl g_73))] := ⟨_, RK.inn hrk (ix_add (k := 10) e_70 r_25 (by decide) ⟨by decide, rfl⟩) (cN_lt (n := 8) r_25 (by decide)) r_61 (r_65.2 c_66), hP, hD⟩
        refine lv_iconst (v := 1) hx hb dX12_isInHere_79 (by decide) ?_
        refine W.widen (k := 0) (n := 0) (Nat.le_of_ble_eq_true rfl) (Nat.le_of_ble_eq_true rfl) ?_
        have hP9 := hP.sub (ws' := [(m0, .inr (10, (.ref mtp :: .int sta :: .int sru :: .ref msg :: .ref mln :: .ref mcl :: .ref mcs :: .ref mrd :: .int v_51 :: .int v_52 :: .int v_53 :: .int ste :: .int sma :: .int sde :: .int sli :: .ref mop :: .int sod :: .ref mst :: .int sto :: .ref mwd :: .ref msd :: .int sx_ :: .ref mws :: .int sun :: .ref mfr :: .ref mqu :: .ref miw :: .int sfi :: .int swa :: .long sdx :: .ref mim :: .ref mix :: .ref mmd :: []))), (mtp, .inl ((cs 2), 400, .inl gtp)), (mrd, .inl ((cs 0), 92, .inl g_73))]) [0, 1, 2] rfl
        have hD9 := hD.sub (ws' := [(m0, .inr (10, (.ref mtp :: .int sta :: .int sru :: .ref msg :: .ref mln :: .ref mcl :: .ref mcs :: .ref mrd :: .int v_51 :: .int v_52 :: .int v_53 :: .int ste :: .int sma :: .int sde :: .int sli :: .ref mop :: .int sod :: .ref mst :: .int sto :: .ref mwd :: .ref msd :: .int sx_ :: .ref mws :: .int sun :: .ref mfr :: .ref mqu :: .ref miw :: .int sfi :: .int swa :: .long sdx :: .ref mim :: .ref mix :: .ref mmd :: []))), (mtp, .inl ((cs 2), 400, .inl gtp)), (mrd, .inl ((cs 0), 92, .inl g_73))]) [0, 1, 2] (by decide) rfl
        exact W.zret (v := 1) (ty := .boolean) hx hb hr rfl (fun t9 ht9 hW9 => ⟨⟨_, 1, rfl, rfl, ⟨v_51, v_52, v_53, g_73, (Rg.wk (lo2 := 0) (hi2 := 1) (Rg.c (c := 1) (k := 1) rfl) (by decide)), (NX.tr (NX.tr (NX.tr rp_7 rp_19) rp_34) rp_55), (fun _ => rb_74), (fun h9 => absurd h9 (by decide)), by rw [ht9]; exact hP9, hD9⟩⟩, hS.F ht9⟩) hS.2.2 dX12_isInHere_80
      · have r_68 : Rg 0 0 x_63 := Rg.eq_l c_66 r_65.1 (Rg.c (c := 0) (k := 0) rfl) (by decide)
        refine lv_aload_n hx hb dX12_isInHere_59 rfl (lv_at hl 2 rfl) ?_
        refine lv_iconst (v := 1) hx hb dX12_isInHere_60 (by decide) ?_
        refine lv_iload_n hx hb dX12_isInHere_61 rfl (lv_at hl 0 rfl) ?_
        have hPc := hP.sub (ws' := [(m0, .inr (10, (.ref mtp :: .int sta :: .int sru :: .ref msg :: .ref mln :: .ref mcl :: .ref mcs :: .ref mrd :: .int v_51 :: .int v_52 :: .int v_53 :: .int ste :: .int sma :: .int sde :: .int sli :: .ref mop :: .int sod :: .ref mst :: .int sto :: .ref mwd :: .ref msd :: .int sx_ :: .ref mws :: .int sun :: .ref mfr :: .ref mqu :: .ref miw :: .int sfi :: .int swa :: .long sdx :: .ref mim :: .ref mix :: .ref mmd :: [])))]) [0] rfl
        have hDc := hD.sub (ws' := [(m0, .inr (10, (.ref mtp :: .int sta :: .int sru :: .ref msg :: .ref mln :: .ref mcl :: .ref mcs :: .ref mrd :: .int v_51 :: .int v_52 :: .int v_53 :: .int ste :: .int sma :: .int sde :: .int sli :: .ref mop :: .int sod :: .ref mst :: .int sto :: .ref mwd :: .ref msd :: .int sx_ :: .ref mws :: .int sun :: .ref mfr :: .ref mqu :: .ref miw :: .int sfi :: .int swa :: .long sdx :: .ref mim :: .ref mix :: .ref mmd :: [])))]) [0] (by decide) rfl
        have hFc := va_free (wc := [(m0, .inr (10, (.ref mtp :: .int sta :: .int sru :: .ref msg :: .ref mln :: .ref mcl :: .ref mcs :: .ref mrd :: .int v_51 :: .int v_52 :: .int v_53 :: .int ste :: .int sma :: .int sde :: .int sli :: .ref mop :: .int sod :: .ref mst :: .int sto :: .ref mwd :: .ref msd :: .int sx_ :: .ref mws :: .int sun :: .ref mfr :: .ref mqu :: .ref miw :: .int sfi :: .int swa :: .long sdx :: .ref mim :: .ref mix :: .ref mmd :: [])))]) hD hS hA [0] rfl
        refine va_calli (va_runV (As := [.int 1, .int v_32]) (rest := []) ⟨hx, hb, hml, hown, hts⟩ (c_M_fails l D cs X H.size m0 mtp sta sru msg mln mcl mcs mrd v_51 v_52 v_53 ste sma sde sli mop sod mst sto mwd msd sx_ mws sun mfr mqu miw sfi swa sdx mim mix mmd 1 v_32 (Rg.wk (lo2 := 0) (hi2 := 4) (Rg.c (c := 1) (k := 1) rfl) (by decide)) r_38) ⟨callB_of 2 hts (gd_C qq_6_70) rfl rfl rfl (hT _ qq_1_9) (hT _ qq_6_67) (by decide +kernel) (rm_R rfl rfl), (hT _ qq_6_69), (hT _ qs_2_6)⟩ (pr_V hPc hK hDc hN (hR.sub (wo' := []) [] rfl) hS hFc hX hXs (ci := 10) (q0 := 0) rfl rfl) rfl rfl hl.1 rfl (lv_room (Nat.le_of_ble_eq_true rfl)) dX12_isInHere_62 ⟨Nat.le_of_ble_eq_true rfl, Nat.le_of_ble_eq_true rfl⟩) hS (fun q _ h => hFc q h) hFc (fun x_79 u_75 t_78 H1 locs ht9 hvm hw_76 hB_77 hz1 hk1 hS => ?_)
        obtain ⟨v_80, rp_81, hP1, hD1⟩ := hB_77
        rw [ht9] at hP1
        obtain ⟨hP, hD⟩ := va_join (wr := [(mtp, .inl ((cs 2), 400, .inl gtp)), (mrd, .inl ((cs 0), 92, .inl grd))]) (w1 := [(m0, .inr (10, (.ref mtp :: .int sta :: .int sru :: .ref msg :: .ref mln :: .ref mcl :: .ref mcs :: .ref mrd :: .int v_51 :: .int v_80 :: .int v_53 :: .int ste :: .int sma :: .int sde :: .int sli :: .ref mop :: .int sod :: .ref mst :: .int sto :: .ref mwd :: .ref msd :: .int sx_ :: .ref mws :: .int sun :: .ref mfr :: .ref mqu :: .ref miw :: .int sfi :: .int swa :: .long sdx :: .ref mim :: .ref mix :: .ref mmd :: [])))]) hP hD [0] [1, 2] rfl rfl (by decide) (by decide) hk1 hFc hP1 hD1
        generalize H1 = H at hP hS ⊢
        have hP : va_P D vwCl [(mtp, .inl ((cs 2), 400, .inl gtp)), (mrd, .inl ((cs 0), 92, .inl grd)), (m0, .inr (10, (.ref mtp :: .int sta :: .int sru :: .ref msg :: .ref mln :: .ref mcl :: .ref mcs :: .ref mrd :: .int v_51 :: .int v_80 :: .int v_53 :: .int ste :: .int sma :: .int sde :: .int sli :: .ref mop :: .int sod :: .ref mst :: .int sto :: .ref mwd :: .ref msd :: .int sx_ :: .ref mws :: .int sun :: .ref mfr :: .ref mqu :: .ref miw :: .int sfi :: .int swa :: .long sdx :: .ref mim :: .ref mix :: .ref mmd :: [])))] H := hP
        have hD : va_D A [(mtp, .inl ((cs 2), 400, .inl gtp)), (mrd, .inl ((cs 0), 92, .inl grd)), (m0, .inr (10, (.ref mtp :: .int sta :: .int sru :: .ref msg :: .ref mln :: .ref mcl :: .ref mcs :: .ref mrd :: .int v_51 :: .int v_80 :: .int v_53 :: .int ste :: .int sma :: .int sde :: .int sli :: .ref mop :: .int sod :: .ref mst :: .int sto :: .ref mwd :: .ref msd :: .int sx_ :: .ref mws :: .int sun :: .ref mfr :: .ref mqu :: .ref miw :: .int sfi :: .int swa :: .long sdx :: .ref mim :: .ref mix :: .ref mmd :: [])))] := hD
        have hP := hP.sub (ws' := [(m0, .inr (10, (.ref mtp :: .int sta :: .int sru :: .ref msg :: .ref mln :: .ref mcl :: .ref mcs :: .ref mrd :: .int v_51 :: .int v_80 :: .int v_53 :: .int ste :: .int sma :: .int sde :: .int sli :: .ref mop :: .int sod :: .ref mst :: .int sto :: .ref mwd :: .ref msd :: .int sx_ :: .ref mws :: .int sun :: .ref mfr :: .ref mqu :: .ref miw :: .int sfi :: .int swa :: .long sdx :: .ref mim :: .ref mix :: .ref mmd :: []))), (mtp, .inl ((cs 2), 400, .inl gtp)), (mrd, .inl ((cs 0), 92, .inl grd))]) [2, 0, 1] rfl
        have hD := hD.sub (ws' := [(m0, .inr (10, (.ref mtp :: .int sta :: .int sru :: .ref msg :: .ref mln :: .ref mcl :: .ref mcs :: .ref mrd :: .int v_51 :: .int v_80 :: .int v_53 :: .int ste :: .int sma :: .int sde :: .int sli :: .ref mop :: .int sod :: .ref mst :: .int sto :: .ref mwd :: .ref msd :: .int sx_ :: .ref mws :: .int sun :: .ref mfr :: .ref mqu :: .ref miw :: .int sfi :: .int swa :: .long sdx :: .ref mim :: .ref mix :: .ref mmd :: []))), (mtp, .inl ((cs 2), 400, .inl gtp)), (mrd, .inl ((cs 0), 92, .inl grd))]) [2, 0, 1] (by decide) rfl
        refine W.widen (k := 0) (n := 0) (Nat.le_of_ble_eq_true rfl) (Nat.le_of_ble_eq_true rfl) ?_
        have hP9 := hP.sub (ws' := [(m0, .inr (10, (.ref mtp :: .int sta :: .int sru :: .ref msg :: .ref mln :: .ref mcl :: .ref mcs :: .ref mrd :: .int v_51 :: .int v_80 :: .int v_53 :: .int ste :: .int sma :: .int sde :: .int sli :: .ref mop :: .int sod :: .ref mst :: .int sto :: .ref mwd :: .ref msd :: .int sx_ :: .ref mws :: .int sun :: .ref mfr :: .ref mqu :: .ref miw :: .int sfi :: .int swa :: .long sdx :: .ref mim :: .ref mix :: .ref mmd :: []))), (mtp, .inl ((cs 2), 400, .inl gtp)), (mrd, .inl ((cs 0), 92, .inl grd))]) [0, 1, 2] rfl
        have hD9 := hD.sub (ws' := [(m0, .inr (10, (.ref mtp :: .int sta :: .int sru :: .ref msg :: .ref mln :: .ref mcl :: .ref mcs :: .ref mrd :: .int v_51 :: .int v_80 :: .int v_53 :: .int ste :: .int sma :: .int sde :: .int sli :: .ref mop :: .int sod :: .ref mst :: .int sto :: .ref mwd :: .ref msd :: .int sx_ :: .ref mws :: .int sun :: .ref mfr :: .ref mqu :: .ref miw :: .int sfi :: .int swa :: .long sdx :: .ref mim :: .ref mix :: .ref mmd :: []))), (mtp, .inl ((cs 2), 400, .inl gtp)), (mrd, .inl ((cs 0), 92, .inl grd))]) [0, 1, 2] (by decide) rfl
        exact W.zret (v := x_79) (ty := .boolean) hx hb hr (nar_b (Rg.wk (lo2 := 0) (hi2 := 1) hw_76 (by decide))) (fun t9 ht9 hW9 => ⟨⟨_, x_79, rfl, rfl, ⟨v_51, v_80, v_53, grd, (Rg.wk (lo2 := 0) (hi2 := 1) hw_76 (by decide)), (NX.tr (NX.tr (NX.tr rp_7 rp_19) rp_34) rp_55), (fun h9 => absurd (rg_0 hw_76) h9), (fun _ => rp_81), by rw [ht9]; exact hP9, hD9⟩⟩, hS.F ht9⟩) hS.2.2 dX12_isInHere_65
    · have r_62 : Rg 0 0 x_50 := Rg.eq_l c_59 (Rg.of hw_47 r_54) (Rg.c (c := 0) (k := 0) rfl) (by decide)
      refine lv_iconst (v := 0) hx hb dX12_isInHere_45 (by decide) ?_
      refine W.widen (k := 0) (n := 0) (Nat.le_of_ble_eq_true rfl) (Nat.le_of_ble_eq_true rfl) ?_
      have hP9 := hP.sub (ws' := [(m0, .inr (10, (.ref mtp :: .int sta :: .int sru :: .ref msg :: .ref mln :: .ref mcl :: .ref mcs :: .ref mrd :: .int v_51 :: .int v_52 :: .int v_53 :: .int ste :: .int sma :: .int sde :: .int sli :: .ref mop :: .int sod :: .ref mst :: .int sto :: .ref mwd :: .ref msd :: .int sx_ :: .ref mws :: .int sun :: .ref mfr :: .ref mqu :: .ref miw :: .int sfi :: .int swa :: .long sdx :: .ref mim :: .ref mix :: .ref mmd :: []))), (mtp, .inl ((cs 2), 400, .inl gtp)), (mrd, .inl ((cs 0), 92, .inl grd))]) [0, 1, 2] rfl
      have hD9 := hD.sub (ws' := [(m0, .inr (10, (.ref mtp :: .int sta :: .int sru :: .ref msg :: .ref mln :: .ref mcl :: .ref mcs :: .ref mrd :: .int v_51 :: .int v_52 :: .int v_53 :: .int ste :: .int sma :: .int sde :: .int sli :: .ref mop :: .int sod :: .ref mst :: .int sto :: .ref mwd :: .ref msd :: .int sx_ :: .ref mws :: .int sun :: .ref mfr :: .ref mqu :: .ref miw :: .int sfi :: .int swa :: .long sdx :: .ref mim :: .ref mix :: .ref mmd :: []))), (mtp, .inl ((cs 2), 400, .inl gtp)), (mrd, .inl ((cs 0), 92, .inl grd))]) [0, 1, 2] (by decide) rfl
      exact W.zret (v := 0) (ty := .boolean) hx hb hr rfl (fun t9 ht9 hW9 => ⟨⟨_, 0, rfl, rfl, ⟨v_51, v_52, v_53, grd, (Rg.wk (lo2 := 0) (hi2 := 1) (Rg.c (c := 0) (k := 0) rfl) (by decide)), (NX.tr (NX.tr (NX.tr rp_7 rp_19) rp_34) rp_55), (fun h9 => absurd rfl h9), (fun _ => (rp_57 (hw_47.symm.trans c_59))), by rw [ht9]; exact hP9, hD9⟩⟩, hS.F ht9⟩) hS.2.2 dX12_isInHere_46
  · have r_26 : Rg 0 0 x_14 := Rg.eq_l c_23 (Rg.of hw_11 r_18) (Rg.c (c := 0) (k := 0) rfl) (by decide)
    refine lv_iconst (v := 0) hx hb dX12_isInHere_12 (by decide) ?_
    refine W.widen (k := 0) (n := 0) (Nat.le_of_ble_eq_true rfl) (Nat.le_of_ble_eq_true rfl) ?_
    have hP9 := hP.sub (ws' := [(m0, .inr (10, (.ref mtp :: .int sta :: .int sru :: .ref msg :: .ref mln :: .ref mcl :: .ref mcs :: .ref mrd :: .int v_15 :: .int v_16 :: .int v_17 :: .int ste :: .int sma :: .int sde :: .int sli :: .ref mop :: .int sod :: .ref mst :: .int sto :: .ref mwd :: .ref msd :: .int sx_ :: .ref mws :: .int sun :: .ref mfr :: .ref mqu :: .ref miw :: .int sfi :: .int swa :: .long sdx :: .ref mim :: .ref mix :: .ref mmd :: []))), (mtp, .inl ((cs 2), 400, .inl gtp)), (mrd, .inl ((cs 0), 92, .inl grd))]) [0, 1, 2] rfl
    have hD9 := hD.sub (ws' := [(m0, .inr (10, (.ref mtp :: .int sta :: .int sru :: .ref msg :: .ref mln :: .ref mcl :: .ref mcs :: .ref mrd :: .int v_15 :: .int v_16 :: .int v_17 :: .int ste :: .int sma :: .int sde :: .int sli :: .ref mop :: .int sod :: .ref mst :: .int sto :: .ref mwd :: .ref msd :: .int sx_ :: .ref mws :: .int sun :: .ref mfr :: .ref mqu :: .ref miw :: .int sfi :: .int swa :: .long sdx :: .ref mim :: .ref mix :: .ref mmd :: []))), (mtp, .inl ((cs 2), 400, .inl gtp)), (mrd, .inl ((cs 0), 92, .inl grd))]) [0, 1, 2] (by decide) rfl
    exact W.zret (v := 0) (ty := .boolean) hx hb hr rfl (fun t9 ht9 hW9 => ⟨⟨_, 0, rfl, rfl, ⟨v_15, v_16, v_17, grd, (Rg.wk (lo2 := 0) (hi2 := 1) (Rg.c (c := 0) (k := 0) rfl) (by decide)), (NX.tr rp_7 rp_19), (fun h9 => absurd rfl h9), (fun _ => (rp_21 (hw_11.symm.trans c_23))), by rw [ht9]; exact hP9, hD9⟩⟩, hS.F ht9⟩) hS.2.2 dX12_isInHere_13
theorem dX12_isRowHere_0 : decode cX12_isRowHere 0 = .ok (.aload_n 0, 1) := by decide +kernel
theorem dX12_isRowHere_1 : decode cX12_isRowHere 1 = .ok (.getfield 26, 3) := by decide +kernel
theorem dX12_isRowHere_4 : decode cX12_isRowHere 4 = .ok (.iconst 0, 1) := by decide +kernel
theorem dX12_isRowHere_5 : decode cX12_isRowHere 5 = .ok (.iaload, 1) := by decide +kernel
theorem dX12_isRowHere_6 : decode cX12_isRowHere 6 = .ok (.ifCond .le 10, 3) := by decide +kernel
theorem dX12_isRowHere_16 : decode cX12_isRowHere 16 = .ok (.aload_n 0, 1) := by decide +kernel
theorem dX12_isRowHere_17 : decode cX12_isRowHere 17 = .ok (.invokevirtual 91, 3) := by decide +kernel
theorem dX12_isRowHere_20 : decode cX12_isRowHere 20 = .ok (.aload_n 0, 1) := by decide +kernel
theorem dX12_isRowHere_21 : decode cX12_isRowHere 21 = .ok (.iconst 0, 1) := by decide +kernel
theorem dX12_isRowHere_22 : decode cX12_isRowHere 22 = .ok (.iconst 1, 1) := by decide +kernel
theorem dX12_isRowHere_23 : decode cX12_isRowHere 23 = .ok (.bipush 8, 2) := by decide +kernel
theorem dX12_isRowHere_25 : decode cX12_isRowHere 25 = .ok (.invokevirtual 204, 3) := by decide +kernel
theorem dX12_isRowHere_28 : decode cX12_isRowHere 28 = .ok (.ifCond .eq 14, 3) := by decide +kernel
theorem dX12_isRowHere_42 : decode cX12_isRowHere 42 = .ok (.iconst 0, 1) := by decide +kernel
theorem dX12_isRowHere_43 : decode cX12_isRowHere 43 = .ok (.ireturn, 1) := by decide +kernel
theorem dX12_isRowHere_31 : decode cX12_isRowHere 31 = .ok (.aload_n 0, 1) := by decide +kernel
theorem dX12_isRowHere_32 : decode cX12_isRowHere 32 = .ok (.iconst 1, 1) := by decide +kernel
theorem dX12_isRowHere_33 : decode cX12_isRowHere 33 = .ok (.iconst 1, 1) := by decide +kernel
theorem dX12_isRowHere_34 : decode cX12_isRowHere 34 = .ok (.bipush 8, 2) := by decide +kernel
theorem dX12_isRowHere_36 : decode cX12_isRowHere 36 = .ok (.invokevirtual 204, 3) := by decide +kernel
theorem dX12_isRowHere_39 : decode cX12_isRowHere 39 = .ok (.ifCond .ne 5, 3) := by decide +kernel
theorem dX12_isRowHere_44 : decode cX12_isRowHere 44 = .ok (.iconst 0, 1) := by decide +kernel
theorem dX12_isRowHere_45 : decode cX12_isRowHere 45 = .ok (.istore_n 2, 1) := by decide +kernel
theorem dX12_isRowHere_46 : decode cX12_isRowHere 46 = .ok (.iload_n 2, 1) := by decide +kernel
theorem dX12_isRowHere_47 : decode cX12_isRowHere 47 = .ok (.bipush 8, 2) := by decide +kernel
theorem dX12_isRowHere_49 : decode cX12_isRowHere 49 = .ok (.if_icmp .ge 113, 3) := by decide +kernel
theorem dX12_isRowHere_162 : decode cX12_isRowHere 162 = .ok (.iconst 1, 1) := by decide +kernel
theorem dX12_isRowHere_163 : decode cX12_isRowHere 163 = .ok (.ireturn, 1) := by decide +kernel
theorem dX12_isRowHere_52 : decode cX12_isRowHere 52 = .ok (.aload_n 0, 1) := by decide +kernel
theorem dX12_isRowHere_53 : decode cX12_isRowHere 53 = .ok (.getfield 26, 3) := by decide +kernel
theorem dX12_isRowHere_56 : decode cX12_isRowHere 56 = .ok (.bipush 10, 2) := by decide +kernel
theorem dX12_isRowHere_58 : decode cX12_isRowHere 58 = .ok (.iload_n 2, 1) := by decide +kernel
theorem dX12_isRowHere_59 : decode cX12_isRowHere 59 = .ok (.iadd, 1) := by decide +kernel
theorem dX12_isRowHere_60 : decode cX12_isRowHere 60 = .ok (.iconst (-1), 1) := by decide +kernel
theorem dX12_isRowHere_61 : decode cX12_isRowHere 61 = .ok (.iastore, 1) := by decide +kernel
theorem dX12_isRowHere_62 : decode cX12_isRowHere 62 = .ok (.aload_n 0, 1) := by decide +kernel
theorem dX12_isRowHere_63 : decode cX12_isRowHere 63 = .ok (.getfield 26, 3) := by decide +kernel
theorem dX12_isRowHere_66 : decode cX12_isRowHere 66 = .ok (.bipush 18, 2) := by decide +kernel
theorem dX12_isRowHere_68 : decode cX12_isRowHere 68 = .ok (.iconst 5, 1) := by decide +kernel
theorem dX12_isRowHere_69 : decode cX12_isRowHere 69 = .ok (.iload_n 2, 1) := by decide +kernel
theorem dX12_isRowHere_70 : decode cX12_isRowHere 70 = .ok (.imul, 1) := by decide +kernel
theorem dX12_isRowHere_71 : decode cX12_isRowHere 71 = .ok (.iadd, 1) := by decide +kernel
theorem dX12_isRowHere_72 : decode cX12_isRowHere 72 = .ok (.iconst 0, 1) := by decide +kernel
theorem dX12_isRowHere_73 : decode cX12_isRowHere 73 = .ok (.iastore, 1) := by decide +kernel
theorem dX12_isRowHere_74 : decode cX12_isRowHere 74 = .ok (.aload_n 0, 1) := by decide +kernel
theorem dX12_isRowHere_75 : decode cX12_isRowHere 75 = .ok (.getfield 26, 3) := by decide +kernel
theorem dX12_isRowHere_78 : decode cX12_isRowHere 78 = .ok (.bipush 18, 2) := by decide +kernel
theorem dX12_isRowHere_80 : decode cX12_isRowHere 80 = .ok (.iconst 5, 1) := by decide +kernel
theorem dX12_isRowHere_81 : decode cX12_isRowHere 81 = .ok (.iload_n 2, 1) := by decide +kernel
theorem dX12_isRowHere_82 : decode cX12_isRowHere 82 = .ok (.imul, 1) := by decide +kernel
theorem dX12_isRowHere_83 : decode cX12_isRowHere 83 = .ok (.iadd, 1) := by decide +kernel
theorem dX12_isRowHere_84 : decode cX12_isRowHere 84 = .ok (.iconst 1, 1) := by decide +kernel
theorem dX12_isRowHere_85 : decode cX12_isRowHere 85 = .ok (.iadd, 1) := by decide +kernel
theorem dX12_isRowHere_86 : decode cX12_isRowHere 86 = .ok (.iconst 0, 1) := by decide +kernel
theorem dX12_isRowHere_87 : decode cX12_isRowHere 87 = .ok (.iastore, 1) := by decide +kernel
theorem dX12_isRowHere_88 : decode cX12_isRowHere 88 = .ok (.aload_n 0, 1) := by decide +kernel
theorem dX12_isRowHere_89 : decode cX12_isRowHere 89 = .ok (.getfield 26, 3) := by decide +kernel
theorem dX12_isRowHere_92 : decode cX12_isRowHere 92 = .ok (.bipush 18, 2) := by decide +kernel
theorem dX12_isRowHere_94 : decode cX12_isRowHere 94 = .ok (.iconst 5, 1) := by decide +kernel
theorem dX12_isRowHere_95 : decode cX12_isRowHere 95 = .ok (.iload_n 2, 1) := by decide +kernel
theorem dX12_isRowHere_96 : decode cX12_isRowHere 96 = .ok (.imul, 1) := by decide +kernel
theorem dX12_isRowHere_97 : decode cX12_isRowHere 97 = .ok (.iadd, 1) := by decide +kernel
theorem dX12_isRowHere_98 : decode cX12_isRowHere 98 = .ok (.iconst 2, 1) := by decide +kernel
theorem dX12_isRowHere_99 : decode cX12_isRowHere 99 = .ok (.iadd, 1) := by decide +kernel
theorem dX12_isRowHere_100 : decode cX12_isRowHere 100 = .ok (.iconst 1, 1) := by decide +kernel
theorem dX12_isRowHere_101 : decode cX12_isRowHere 101 = .ok (.iastore, 1) := by decide +kernel
theorem dX12_isRowHere_102 : decode cX12_isRowHere 102 = .ok (.aload_n 0, 1) := by decide +kernel
theorem dX12_isRowHere_103 : decode cX12_isRowHere 103 = .ok (.getfield 26, 3) := by decide +kernel
theorem dX12_isRowHere_106 : decode cX12_isRowHere 106 = .ok (.bipush 18, 2) := by decide +kernel
theorem dX12_isRowHere_108 : decode cX12_isRowHere 108 = .ok (.iconst 5, 1) := by decide +kernel
theorem dX12_isRowHere_109 : decode cX12_isRowHere 109 = .ok (.iload_n 2, 1) := by decide +kernel
theorem dX12_isRowHere_110 : decode cX12_isRowHere 110 = .ok (.imul, 1) := by decide +kernel
theorem dX12_isRowHere_111 : decode cX12_isRowHere 111 = .ok (.iadd, 1) := by decide +kernel
theorem dX12_isRowHere_112 : decode cX12_isRowHere 112 = .ok (.iconst 3, 1) := by decide +kernel
theorem dX12_isRowHere_113 : decode cX12_isRowHere 113 = .ok (.iadd, 1) := by decide +kernel
theorem dX12_isRowHere_114 : decode cX12_isRowHere 114 = .ok (.iconst 2, 1) := by decide +kernel
theorem dX12_isRowHere_115 : decode cX12_isRowHere 115 = .ok (.iastore, 1) := by decide +kernel
theorem dX12_isRowHere_116 : decode cX12_isRowHere 116 = .ok (.aload_n 0, 1) := by decide +kernel
theorem dX12_isRowHere_117 : decode cX12_isRowHere 117 = .ok (.getfield 26, 3) := by decide +kernel
theorem dX12_isRowHere_120 : decode cX12_isRowHere 120 = .ok (.bipush 18, 2) := by decide +kernel
theorem dX12_isRowHere_122 : decode cX12_isRowHere 122 = .ok (.iconst 5, 1) := by decide +kernel
theorem dX12_isRowHere_123 : decode cX12_isRowHere 123 = .ok (.iload_n 2, 1) := by decide +kernel
theorem dX12_isRowHere_124 : decode cX12_isRowHere 124 = .ok (.imul, 1) := by decide +kernel
theorem dX12_isRowHere_125 : decode cX12_isRowHere 125 = .ok (.iadd, 1) := by decide +kernel
theorem dX12_isRowHere_126 : decode cX12_isRowHere 126 = .ok (.iconst 4, 1) := by decide +kernel
theorem dX12_isRowHere_127 : decode cX12_isRowHere 127 = .ok (.iadd, 1) := by decide +kernel
theorem dX12_isRowHere_128 : decode cX12_isRowHere 128 = .ok (.iconst 1, 1) := by decide +kernel
theorem dX12_isRowHere_129 : decode cX12_isRowHere 129 = .ok (.iastore, 1) := by decide +kernel
theorem dX12_isRowHere_130 : decode cX12_isRowHere 130 = .ok (.aload_n 0, 1) := by decide +kernel
theorem dX12_isRowHere_131 : decode cX12_isRowHere 131 = .ok (.getfield 26, 3) := by decide +kernel
theorem dX12_isRowHere_134 : decode cX12_isRowHere 134 = .ok (.bipush 58, 2) := by decide +kernel
theorem dX12_isRowHere_136 : decode cX12_isRowHere 136 = .ok (.iconst 2, 1) := by decide +kernel
theorem dX12_isRowHere_137 : decode cX12_isRowHere 137 = .ok (.iload_n 2, 1) := by decide +kernel
theorem dX12_isRowHere_138 : decode cX12_isRowHere 138 = .ok (.imul, 1) := by decide +kernel
theorem dX12_isRowHere_139 : decode cX12_isRowHere 139 = .ok (.iadd, 1) := by decide +kernel
theorem dX12_isRowHere_140 : decode cX12_isRowHere 140 = .ok (.iconst 0, 1) := by decide +kernel
theorem dX12_isRowHere_141 : decode cX12_isRowHere 141 = .ok (.iastore, 1) := by decide +kernel
theorem dX12_isRowHere_142 : decode cX12_isRowHere 142 = .ok (.aload_n 0, 1) := by decide +kernel
theorem dX12_isRowHere_143 : decode cX12_isRowHere 143 = .ok (.getfield 26, 3) := by decide +kernel
theorem dX12_isRowHere_146 : decode cX12_isRowHere 146 = .ok (.bipush 58, 2) := by decide +kernel
theorem dX12_isRowHere_148 : decode cX12_isRowHere 148 = .ok (.iconst 2, 1) := by decide +kernel
theorem dX12_isRowHere_149 : decode cX12_isRowHere 149 = .ok (.iload_n 2, 1) := by decide +kernel
theorem dX12_isRowHere_150 : decode cX12_isRowHere 150 = .ok (.imul, 1) := by decide +kernel
theorem dX12_isRowHere_151 : decode cX12_isRowHere 151 = .ok (.iadd, 1) := by decide +kernel
theorem dX12_isRowHere_152 : decode cX12_isRowHere 152 = .ok (.iconst 1, 1) := by decide +kernel
theorem dX12_isRowHere_153 : decode cX12_isRowHere 153 = .ok (.iadd, 1) := by decide +kernel
theorem dX12_isRowHere_154 : decode cX12_isRowHere 154 = .ok (.iconst 0, 1) := by decide +kernel
theorem dX12_isRowHere_155 : decode cX12_isRowHere 155 = .ok (.iastore, 1) := by decide +kernel
theorem dX12_isRowHere_156 : decode cX12_isRowHere 156 = .ok (.iinc 2 1, 3) := by decide +kernel
theorem dX12_isRowHere_159 : decode cX12_isRowHere 159 = .ok (.goto (-113), 3) := by decide +kernel
theorem dX12_isRowHere_9 : decode cX12_isRowHere 9 = .ok (.aload_n 0, 1) := by decide +kernel
theorem dX12_isRowHere_10 : decode cX12_isRowHere 10 = .ok (.iconst 4, 1) := by decide +kernel
theorem dX12_isRowHere_11 : decode cX12_isRowHere 11 = .ok (.iload_n 1, 1) := by decide +kernel
theorem dX12_isRowHere_12 : decode cX12_isRowHere 12 = .ok (.invokevirtual 97, 3) := by decide +kernel
theorem dX12_isRowHere_15 : decode cX12_isRowHere 15 = .ok (.ireturn, 1) := by decide +kernel
set_option maxHeartbeats 4000000 in
set_option maxRecDepth 100000 in
theorem c_M_isRowHere (l : Launch) (D : va_G) (cs : Nat → ClassId) (X : XX) (sz : Nat) (m0 : Nat) (mtp : Nat) (sta : Int32) (sru : Int32) (msg : Nat) (mln : Nat) (mcl : Nat) (mcs : Nat) (mrd : Nat) (snx : Int32) (swr : Int32) (snu : Int32) (ste : Int32) (sma : Int32) (sde : Int32) (sli : Int32) (mop : Nat) (sod : Int32) (mst : Nat) (sto : Int32) (mwd : Nat) (msd : Nat) (sx_ : Int32) (mws : Nat) (sun : Int32) (mfr : Nat) (mqu : Nat) (miw : Nat) (sfi : Int32) (swa : Int32) (sdx : Int64) (mim : Nat) (mix : Nat) (mmd : Nat) (gtp : Nat → Int32) (grd : Nat → Int32) (b : Int32) (r_sta : Rg 0 400 sta) (r_snx : Rg 0 400 snx) (hnx : Int32.toInt snx ≤ Int32.toInt sta) (hri : RI grd) (r_b : Rg 0 400 b) : Met l yX12_isRowHere (Cond.code yX12_isRowHere cX12_isRowHere 3 (some .boolean) :: TB) (RM 3 0 0) (va_Pc [.ref m0, .int b] (PRE D cs X [(m0, .inr (10, (.ref mtp :: .int sta :: .int sru :: .ref msg :: .ref mln :: .ref mcl :: .ref mcs :: .ref mrd :: .int snx :: .int swr :: .int snu :: .int ste :: .int sma :: .int sde :: .int sli :: .ref mop :: .int sod :: .ref mst :: .int sto :: .ref mwd :: .ref msd :: .int sx_ :: .ref mws :: .int sun :: .ref mfr :: .ref mqu :: .ref miw :: .int sfi :: .int swa :: .long sdx :: .ref mim :: .ref mix :: .ref mmd :: []))), (mtp, .inl ((cs 2), 400, .inl gtp)), (mrd, .inl ((cs 0), 92, .inl grd))] [] sz)) (va_Qi (S := Int32) (fun r rr => r = rr) (fun rr t => ∃ (snx2 : Int32), ∃ (swr2 : Int32), ∃ (snu2 : Int32), ∃ (grd2 : Nat → Int32), Rg 0 1 rr ∧ (NX sta snx snx2) ∧ (¬ rr = 0 → RK grd2) ∧ (rr = 0 → ¬ swr2 = 0) ∧ va_P D vwCl [(m0, .inr (10, (.ref mtp :: .int sta :: .int sru :: .ref msg :: .ref mln :: .ref mcl :: .ref mcs :: .ref mrd :: .int snx2 :: .int swr2 :: .int snu2 :: .int ste :: .int sma :: .int sde :: .int sli :: .ref mop :: .int sod :: .ref mst :: .int sto :: .ref mwd :: .ref msd :: .int sx_ :: .ref mws :: .int sun :: .ref mfr :: .ref mqu :: .ref miw :: .int sfi :: .int swa :: .long sdx :: .ref mim :: .ref mix :: .ref mmd :: []))), (mtp, .inl ((cs 2), 400, .inl gtp)), (mrd, .inl ((cs 0), 92, .inl grd2))] t.heap ∧ va_D (va_A [(m0, .inr (10, (.ref mtp :: .int sta :: .int sru :: .ref msg :: .ref mln :: .ref mcl :: .ref mcs :: .ref mrd :: .int snx :: .int swr :: .int snu :: .int ste :: .int sma :: .int sde :: .int sli :: .ref mop :: .int sod :: .ref mst :: .int sto :: .ref mwd :: .ref msd :: .int sx_ :: .ref mws :: .int sun :: .ref mfr :: .ref mqu :: .ref miw :: .int sfi :: .int swa :: .long sdx :: .ref mim :: .ref mix :: .ref mmd :: []))), (mtp, .inl ((cs 2), 400, .inl gtp)), (mrd, .inl ((cs 0), 92, .inl grd))] sz) [(m0, .inr (10, (.ref mtp :: .int sta :: .int sru :: .ref msg :: .ref mln :: .ref mcl :: .ref mcs :: .ref mrd :: .int snx2 :: .int swr2 :: .int snu2 :: .int ste :: .int sma :: .int sde :: .int sli :: .ref mop :: .int sod :: .ref mst :: .int sto :: .ref mwd :: .ref msd :: .int sx_ :: .ref mws :: .int sun :: .ref mfr :: .ref mqu :: .ref miw :: .int sfi :: .int swa :: .long sdx :: .ref mim :: .ref mix :: .ref mmd :: []))), (mtp, .inl ((cs 2), 400, .inl gtp)), (mrd, .inl ((cs 0), 92, .inl grd2))]) (va_A [(m0, .inr (10, (.ref mtp :: .int sta :: .int sru :: .ref msg :: .ref mln :: .ref mcl :: .ref mcs :: .ref mrd :: .int snx :: .int swr :: .int snu :: .int ste :: .int sma :: .int sde :: .int sli :: .ref mop :: .int sod :: .ref mst :: .int sto :: .ref mwd :: .ref msd :: .int sx_ :: .ref mws :: .int sun :: .ref mfr :: .ref mqu :: .ref miw :: .int sfi :: .int swa :: .long sdx :: .ref mim :: .ref mix :: .ref mmd :: []))), (mtp, .inl ((cs 2), 400, .inl gtp)), (mrd, .inl ((cs 0), 92, .inl grd))] sz)) 0 0 (va_A [(m0, .inr (10, (.ref mtp :: .int sta :: .int sru :: .ref msg :: .ref mln :: .ref mcl :: .ref mcs :: .ref mrd :: .int snx :: .int swr :: .int snu :: .int ste :: .int sma :: .int sde :: .int sli :: .ref mop :: .int sod :: .ref mst :: .int sto :: .ref mwd :: .ref msd :: .int sx_ :: .ref mws :: .int sun :: .ref mfr :: .ref mqu :: .ref miw :: .int sfi :: .int swa :: .long sdx :: .ref mim :: .ref mix :: .ref mmd :: []))), (mtp, .inl ((cs 2), 400, .inl gtp)), (mrd, .inl ((cs 0), 92, .inl grd))] sz) := by
  refine MET (y := yX12_isRowHere) (cc := cX12_isRowHere) (maxL := 3) (ret := (some .boolean)) (d := 3) (mc := 0) (ms := 0) (D := D) (cs := cs) (X := X) (ws := [(m0, .inr (10, (.ref mtp :: .int sta :: .int sru :: .ref msg :: .ref mln :: .ref mcl :: .ref mcs :: .ref mrd :: .int snx :: .int swr :: .int snu :: .int ste :: .int sma :: .int sde :: .int sli :: .ref mop :: .int sod :: .ref mst :: .int sto :: .ref mwd :: .ref msd :: .int sx_ :: .ref mws :: .int sun :: .ref mfr :: .ref mqu :: .ref miw :: .int sfi :: .int swa :: .long sdx :: .ref mim :: .ref mix :: .ref mmd :: []))), (mtp, .inl ((cs 2), 400, .inl gtp)), (mrd, .inl ((cs 0), 92, .inl grd))]) (wo := []) (sz := sz) (av := [.ref m0, .int b]) (Qc := fun A => va_Qi (S := Int32) (fun r rr => r = rr) (fun rr t => ∃ (snx2 : Int32), ∃ (swr2 : Int32), ∃ (snu2 : Int32), ∃ (grd2 : Nat → Int32), Rg 0 1 rr ∧ (NX sta snx snx2) ∧ (¬ rr = 0 → RK grd2) ∧ (rr = 0 → ¬ swr2 = 0) ∧ va_P D vwCl [(m0, .inr (10, (.ref mtp :: .int sta :: .int sru :: .ref msg :: .ref mln :: .ref mcl :: .ref mcs :: .ref mrd :: .int snx2 :: .int swr2 :: .int snu2 :: .int ste :: .int sma :: .int sde :: .int sli :: .ref mop :: .int sod :: .ref mst :: .int sto :: .ref mwd :: .ref msd :: .int sx_ :: .ref mws :: .int sun :: .ref mfr :: .ref mqu :: .ref miw :: .int sfi :: .int swa :: .long sdx :: .ref mim :: .ref mix :: .ref mmd :: []))), (mtp, .inl ((cs 2), 400, .inl gtp)), (mrd, .inl ((cs 0), 92, .inl grd2))] t.heap ∧ va_D A [(m0, .inr (10, (.ref mtp :: .int sta :: .int sru :: .ref msg :: .ref mln :: .ref mcl :: .ref mcs :: .ref mrd :: .int snx2 :: .int swr2 :: .int snu2 :: .int ste :: .int sma :: .int sde :: .int sli :: .ref mop :: .int sod :: .ref mst :: .int sto :: .ref mwd :: .ref msd :: .int sx_ :: .ref mws :: .int sun :: .ref mfr :: .ref mqu :: .ref miw :: .int sfi :: .int swa :: .long sdx :: .ref mim :: .ref mix :: .ref mmd :: []))), (mtp, .inl ((cs 2), 400, .inl gtp)), (mrd, .inl ((cs 0), 92, .inl grd2))]) A) (by decide) (Nat.le_of_ble_eq_true rfl) ?_
  intro p e s m below meth c ls A H hHe hx hb hr hml hown hts hlocks hnm hP hK hD hA hS hN hR hX hXs hl
  have hD : va_D A [(m0, .inr (10, (.ref mtp :: .int sta :: .int sru :: .ref msg :: .ref mln :: .ref mcl :: .ref mcs :: .ref mrd :: .int snx :: .int swr :: .int snu :: .int ste :: .int sma :: .int sde :: .int sli :: .ref mop :: .int sod :: .ref mst :: .int sto :: .ref mwd :: .ref msd :: .int sx_ :: .ref mws :: .int sun :: .ref mfr :: .ref mqu :: .ref miw :: .int sfi :: .int swa :: .long sdx :: .ref mim :: .ref mix :: .ref mmd :: []))), (mtp, .inl ((cs 2), 400, .inl gtp)), (mrd, .inl ((cs 0), 92, .inl grd))] := hD
  obtain ⟨locs, hlc⟩ : ∃ z : List Loc, z = [] := ⟨_, rfl⟩
  rw [← hlc] at hS ⊢
  have hown : s.vm.findClass "WrongHoleModel" = some m.cls := hown
  have hT : ∀ w ∈ TB, w.before ([.ref m0, .int b] : List Value).toArray s = true := fun w h => hts w (List.mem_cons_of_mem _ h)
  have hl : lv_has ls 3 [(0, .ref m0), (1, .int b)] := hl
  have hP : va_P D vwCl [(m0, .inr (10, (.ref mtp :: .int sta :: .int sru :: .ref msg :: .ref mln :: .ref mcl :: .ref mcs :: .ref mrd :: .int snx :: .int swr :: .int snu :: .int ste :: .int sma :: .int sde :: .int sli :: .ref mop :: .int sod :: .ref mst :: .int sto :: .ref mwd :: .ref msd :: .int sx_ :: .ref mws :: .int sun :: .ref mfr :: .ref mqu :: .ref miw :: .int sfi :: .int swa :: .long sdx :: .ref mim :: .ref mix :: .ref mmd :: []))), (mtp, .inl ((cs 2), 400, .inl gtp)), (mrd, .inl ((cs 0), 92, .inl grd))] H := hP
  refine lv_aload_n hx hb dX12_isRowHere_0 rfl (lv_at hl 0 rfl) ?_
  refine va_get (D := D) (ci := 10) (v := .ref mrd) (C := "WrongHoleModel") (T := TX12) (N := 33) hx hb hts (iq_RX12 _) hown hK hP 0 rfl rfl 7 (by decide) (hT _ qq_5_159) (fun _ h9 => h9) rfl dX12_isRowHere_1 ?_
  refine lv_iconst (v := 0) hx hb dX12_isRowHere_4 (by decide) ?_
  have hi_1 : vp_in 0 92 := vi_c rfl
  refine va_iald hx hb hK hP 2 0 rfl rfl hi_1 dX12_isRowHere_5 ?_
  refine lv_topi (fun x_2 e_3 => ?_)
  refine lv_if_le (tgt := 16) hx hb dX12_isRowHere_6 (by decide) (fun c_4 => ?_) (fun c_4 => ?_)
  · have r_5 : Rg (-2147483648) 0 x_2 := Rg.le_l c_4 (Rg.top x_2) (Rg.c (c := 0) (k := 0) rfl) (by decide)
    refine lv_aload_n hx hb dX12_isRowHere_16 rfl (lv_at hl 0 rfl) ?_
    have hPc := hP.sub (ws' := [(m0, .inr (10, (.ref mtp :: .int sta :: .int sru :: .ref msg :: .ref mln :: .ref mcl :: .ref mcs :: .ref mrd :: .int snx :: .int swr :: .int snu :: .int ste :: .int sma :: .int sde :: .int sli :: .ref mop :: .int sod :: .ref mst :: .int sto :: .ref mwd :: .ref msd :: .int sx_ :: .ref mws :: .int sun :: .ref mfr :: .ref mqu :: .ref miw :: .int sfi :: .int swa :: .long sdx :: .ref mim :: .ref mix :: .ref mmd :: []))), (mtp, .inl ((cs 2), 400, .inl gtp))]) [0, 1] rfl
    have hDc := hD.sub (ws' := [(m0, .inr (10, (.ref mtp :: .int sta :: .int sru :: .ref msg :: .ref mln :: .ref mcl :: .ref mcs :: .ref mrd :: .int snx :: .int swr :: .int snu :: .int ste :: .int sma :: .int sde :: .int sli :: .ref mop :: .int sod :: .ref mst :: .int sto :: .ref mwd :: .ref msd :: .int sx_ :: .ref mws :: .int sun :: .ref mfr :: .ref mqu :: .ref miw :: .int sfi :: .int swa :: .long sdx :: .ref mim :: .ref mix :: .ref mmd :: []))), (mtp, .inl ((cs 2), 400, .inl gtp))]) [0, 1] (by decide) rfl
    have hFc := va_free (wc := [(m0, .inr (10, (.ref mtp :: .int sta :: .int sru :: .ref msg :: .ref mln :: .ref mcl :: .ref mcs :: .ref mrd :: .int snx :: .int swr :: .int snu :: .int ste :: .int sma :: .int sde :: .int sli :: .ref mop :: .int sod :: .ref mst :: .int sto :: .ref mwd :: .ref msd :: .int sx_ :: .ref mws :: .int sun :: .ref mfr :: .ref mqu :: .ref miw :: .int sfi :: .int swa :: .long sdx :: .ref mim :: .ref mix :: .ref mmd :: []))), (mtp, .inl ((cs 2), 400, .inl gtp))]) hD hS hA [0, 1] rfl
    refine va_callv (va_runV (As := []) (rest := []) ⟨hx, hb, hml, hown, hts⟩ (c_M_passWord l D cs X H.size m0 mtp sta sru msg mln mcl mcs mrd snx swr snu ste sma sde sli mop sod mst sto mwd msd sx_ mws sun mfr mqu miw sfi swa sdx mim mix mmd gtp r_sta r_snx hnx) ⟨callB_of 0 hts (gd_C qq_6_82) rfl rfl rfl (hT _ qq_1_9) (hT _ qq_6_79) (by decide +kernel) (rm_R rfl rfl), (hT _ qq_6_81), (hT _ qs_2_9)⟩ (pr_V hPc hK hDc hN (hR.sub (wo' := []) [] rfl) hS hFc hX hXs (ci := 10) (q0 := 0) rfl rfl) rfl rfl hl.1 rfl (lv_room (Nat.le_of_ble_eq_true rfl)) dX12_isRowHere_17 ⟨Nat.le_of_ble_eq_true rfl, Nat.le_of_ble_eq_true rfl⟩) hS (fun q _ h => hFc q h) hFc (fun u_7 t_10 H1 locs ht9 hvm hw_8 hB_9 hz1 hk1 hS => ?_)
    obtain ⟨v_12, rp_13, rp_14, hP1, hD1⟩ := hB_9
    rw [ht9] at hP1
    obtain ⟨hP, hD⟩ := va_join (wr := [(mrd, .inl ((cs 0), 92, .inl grd))]) (w1 := [(m0, .inr (10, (.ref mtp :: .int sta :: .int sru :: .ref msg :: .ref mln :: .ref mcl :: .ref mcs :: .ref mrd :: .int v_12 :: .int swr :: .int snu :: .int ste :: .int sma :: .int sde :: .int sli :: .ref mop :: .int sod :: .ref mst :: .int sto :: .ref mwd :: .ref msd :: .int sx_ :: .ref mws :: .int sun :: .ref mfr :: .ref mqu :: .ref miw :: .int sfi :: .int swa :: .long sdx :: .ref mim :: .ref mix :: .ref mmd :: []))), (mtp, .inl ((cs 2), 400, .inl gtp))]) hP hD [0, 1] [2] rfl rfl (by decide) (by decide) hk1 hFc hP1 hD1
    generalize H1 = H at hP hS ⊢
    have hP : va_P D vwCl [(mrd, .inl ((cs 0), 92, .inl grd)), (m0, .inr (10, (.ref mtp :: .int sta :: .int sru :: .ref msg :: .ref mln :: .ref mcl :: .ref mcs :: .ref mrd :: .int v_12 :: .int swr :: .int snu :: .int ste :: .int sma :: .int sde :: .int sli :: .ref mop :: .int sod :: .ref mst :: .int sto :: .ref mwd :: .ref msd :: .int sx_ :: .ref mws :: .int sun :: .ref mfr :: .ref mqu :: .ref miw :: .int sfi :: .int swa :: .long sdx :: .ref mim :: .ref mix :: .ref mmd :: []))), (mtp, .inl ((cs 2), 400, .inl gtp))] H := hP
    have hD : va_D A [(mrd, .inl ((cs 0), 92, .inl grd)), (m0, .inr (10, (.ref mtp :: .int sta :: .int sru :: .ref msg :: .ref mln :: .ref mcl :: .ref mcs :: .ref mrd :: .int v_12 :: .int swr :: .int snu :: .int ste :: .int sma :: .int sde :: .int sli :: .ref mop :: .int sod :: .ref mst :: .int sto :: .ref mwd :: .ref msd :: .int sx_ :: .ref mws :: .int sun :: .ref mfr :: .ref mqu :: .ref miw :: .int sfi :: .int swa :: .long sdx :: .ref mim :: .ref mix :: .ref mmd :: []))), (mtp, .inl ((cs 2), 400, .inl gtp))] := hD
    have r_15 : Rg 0 400 v_12 := rp_13.rg r_snx r_sta
    have hP := hP.sub (ws' := [(m0, .inr (10, (.ref mtp :: .int sta :: .int sru :: .ref msg :: .ref mln :: .ref mcl :: .ref mcs :: .ref mrd :: .int v_12 :: .int swr :: .int snu :: .int ste :: .int sma :: .int sde :: .int sli :: .ref mop :: .int sod :: .ref mst :: .int sto :: .ref mwd :: .ref msd :: .int sx_ :: .ref mws :: .int sun :: .ref mfr :: .ref mqu :: .ref miw :: .int sfi :: .int swa :: .long sdx :: .ref mim :: .ref mix :: .ref mmd :: []))), (mtp, .inl ((cs 2), 400, .inl gtp)), (mrd, .inl ((cs 0), 92, .inl grd))]) [1, 2, 0] rfl
    have hD := hD.sub (ws' := [(m0, .inr (10, (.ref mtp :: .int sta :: .int sru :: .ref msg :: .ref mln :: .ref mcl :: .ref mcs :: .ref mrd :: .int v_12 :: .int swr :: .int snu :: .int ste :: .int sma :: .int sde :: .int sli :: .ref mop :: .int sod :: .ref mst :: .int sto :: .ref mwd :: .ref msd :: .int sx_ :: .ref mws :: .int sun :: .ref mfr :: .ref mqu :: .ref miw :: .int sfi :: .int swa :: .long sdx :: .ref mim :: .ref mix :: .ref mmd :: []))), (mtp, .inl ((cs 2), 400, .inl gtp)), (mrd, .inl ((cs 0), 92, .inl grd))]) [1, 2, 0] (by decide) rfl
    refine lv_aload_n hx hb dX12_isRowHere_20 rfl (lv_at hl 0 rfl) ?_
    refine lv_iconst (v := 0) hx hb dX12_isRowHere_21 (by decide) ?_
    refine lv_iconst (v := 1) hx hb dX12_isRowHere_22 (by decide) ?_
    refine lv_bipush (v := 8) hx hb dX12_isRowHere_23 (by decide) ?_
    have hPc := hP.sub (ws' := [(m0, .inr (10, (.ref mtp :: .int sta :: .int sru :: .ref msg :: .ref mln :: .ref mcl :: .ref mcs :: .ref mrd :: .int v_12 :: .int swr :: .int snu :: .int ste :: .int sma :: .int sde :: .int sli :: .ref mop :: .int sod :: .ref mst :: .int sto :: .ref mwd :: .ref msd :: .int sx_ :: .ref mws :: .int sun :: .ref mfr :: .ref mqu :: .ref miw :: .int sfi :: .int swa :: .long sdx :: .ref mim :: .ref mix :: .ref mmd :: []))), (mtp, .inl ((cs 2), 400, .inl gtp)), (mrd, .inl ((cs 0), 92, .inl grd))]) [0, 1, 2] rfl
    have hDc := hD.sub (ws' := [(m0, .inr (10, (.ref mtp :: .int sta :: .int sru :: .ref msg :: .ref mln :: .ref mcl :: .ref mcs :: .ref mrd :: .int v_12 :: .int swr :: .int snu :: .int ste :: .int sma :: .int sde :: .int sli :: .ref mop :: .int sod :: .ref mst :: .int sto :: .ref mwd :: .ref msd :: .int sx_ :: .ref mws :: .int sun :: .ref mfr :: .ref mqu :: .ref miw :: .int sfi :: .int swa :: .long sdx :: .ref mim :: .ref mix :: .ref mmd :: []))), (mtp, .inl ((cs 2), 400, .inl gtp)), (mrd, .inl ((cs 0), 92, .inl grd))]) [0, 1, 2] (by decide) rfl
    have hFc := va_free (wc := [(m0, .inr (10, (.ref mtp :: .int sta :: .int sru :: .ref msg :: .ref mln :: .ref mcl :: .ref mcs :: .ref mrd :: .int v_12 :: .int swr :: .int snu :: .int ste :: .int sma :: .int sde :: .int sli :: .ref mop :: .int sod :: .ref mst :: .int sto :: .ref mwd :: .ref msd :: .int sx_ :: .ref mws :: .int sun :: .ref mfr :: .ref mqu :: .ref miw :: .int sfi :: .int swa :: .long sdx :: .ref mim :: .ref mix :: .ref mmd :: []))), (mtp, .inl ((cs 2), 400, .inl gtp)), (mrd, .inl ((cs 0), 92, .inl grd))]) hD hS hA [0, 1, 2] rfl
    refine va_calli (va_runV (As := [.int 0, .int 1, .int 8]) (rest := []) ⟨hx, hb, hml, hown, hts⟩ (c_M_cellHere l D cs X H.size m0 mtp sta sru msg mln mcl mcs mrd v_12 swr snu ste sma sde sli mop sod mst sto mwd msd sx_ mws sun mfr mqu miw sfi swa sdx mim mix mmd gtp grd 0 1 8 r_sta r_15 rp_13.2 (Rg.wk (lo2 := 0) (hi2 := 91) (Rg.c (c := 0) (k := 0) rfl) (by decide))) ⟨callB_of 3 hts (gd_C qq_6_86) rfl rfl rfl (hT _ qq_1_9) (hT _ qq_6_83) (by decide +kernel) (rm_R rfl rfl), (hT _ qq_6_85), (hT _ qs_2_10)⟩ (pr_V hPc hK hDc hN (hR.sub (wo' := []) [] rfl) hS hFc hX hXs (ci := 10) (q0 := 0) rfl rfl) rfl rfl hl.1 rfl (lv_room (Nat.le_of_ble_eq_true rfl)) dX12_isRowHere_25 ⟨Nat.le_of_ble_eq_true rfl, Nat.le_of_ble_eq_true rfl⟩) hS (fun q _ h => hFc q h) hFc (fun x_20 u_16 t_19 H1 locs ht9 hvm hw_17 hB_18 hz1 hk1 hS => ?_)
    obtain ⟨v_21, v_22, v_23, g_24, r_25, rp_26, rp_27, rp_28, hP1, hD1⟩ := hB_18
    rw [ht9] at hP1
    obtain ⟨hP, hD⟩ := va_join (wr := []) (w1 := [(m0, .inr (10, (.ref mtp :: .int sta :: .int sru :: .ref msg :: .ref mln :: .ref mcl :: .ref mcs :: .ref mrd :: .int v_21 :: .int v_22 :: .int v_23 :: .int ste :: .int sma :: .int sde :: .int sli :: .ref mop :: .int sod :: .ref mst :: .int sto :: .ref mwd :: .ref msd :: .int sx_ :: .ref mws :: .int sun :: .ref mfr :: .ref mqu :: .ref miw :: .int sfi :: .int swa :: .long sdx :: .ref mim :: .ref mix :: .ref mmd :: []))), (mtp, .inl ((cs 2), 400, .inl gtp)), (mrd, .inl ((cs 0), 92, .inl g_24))]) hP hD [0, 1, 2] [] rfl rfl (by decide) (by decide) hk1 hFc hP1 hD1
    generalize H1 = H at hP hS ⊢
    have hP : va_P D vwCl [(m0, .inr (10, (.ref mtp :: .int sta :: .int sru :: .ref msg :: .ref mln :: .ref mcl :: .ref mcs :: .ref mrd :: .int v_21 :: .int v_22 :: .int v_23 :: .int ste :: .int sma :: .int sde :: .int sli :: .ref mop :: .int sod :: .ref mst :: .int sto :: .ref mwd :: .ref msd :: .int sx_ :: .ref mws :: .int sun :: .ref mfr :: .ref mqu :: .ref miw :: .int sfi :: .int swa :: .long sdx :: .ref mim :: .ref mix :: .ref mmd :: []))), (mtp, .inl ((cs 2), 400, .inl gtp)), (mrd, .inl ((cs 0), 92, .inl g_24))] H := hP
    have hD : va_D A [(m0, .inr (10, (.ref mtp :: .int sta :: .int sru :: .ref msg :: .ref mln :: .ref mcl :: .ref mcs :: .ref mrd :: .int v_21 :: .int v_22 :: .int v_23 :: .int ste :: .int sma :: .int sde :: .int sli :: .ref mop :: .int sod :: .ref mst :: .int sto :: .ref mwd :: .ref msd :: .int sx_ :: .ref mws :: .int sun :: .ref mfr :: .ref mqu :: .ref miw :: .int sfi :: .int swa :: .long sdx :: .ref mim :: .ref mix :: .ref mmd :: []))), (mtp, .inl ((cs 2), 400, .inl gtp)), (mrd, .inl ((cs 0), 92, .inl g_24))] := hD
    have r_29 : Rg 0 400 v_21 := rp_26.rg r_15 r_sta
    refine lv_if_eq (tgt := 42) hx hb dX12_isRowHere_28 (by decide) (fun c_30 => ?_) (fun c_30 => ?_)
    · have r_31 : Rg 0 0 x_20 := Rg.eq_l c_30 (Rg.of hw_17 r_25) (Rg.c (c := 0) (k := 0) rfl) (by decide)
      refine lv_iconst (v := 0) hx hb dX12_isRowHere_42 (by decide) ?_
      refine W.widen (k := 0) (n := 0) (Nat.le_of_ble_eq_true rfl) (Nat.le_of_ble_eq_true rfl) ?_
      have hP9 := hP.sub (ws' := [(m0, .inr (10, (.ref mtp :: .int sta :: .int sru :: .ref msg :: .ref mln :: .ref mcl :: .ref mcs :: .ref mrd :: .int v_21 :: .int v_22 :: .int v_23 :: .int ste :: .int sma :: .int sde :: .int sli :: .ref mop :: .int sod :: .ref mst :: .int sto :: .ref mwd :: .ref msd :: .int sx_ :: .ref mws :: .int sun :: .ref mfr :: .ref mqu :: .ref miw :: .int sfi :: .int swa :: .long sdx :: .ref mim :: .ref mix :: .ref mmd :: []))), (mtp, .inl ((cs 2), 400, .inl gtp)), (mrd, .inl ((cs 0), 92, .inl g_24))]) [0, 1, 2] rfl
      have hD9 := hD.sub (ws' := [(m0, .inr (10, (.ref mtp :: .int sta :: .int sru :: .ref msg :: .ref mln :: .ref mcl :: .ref mcs :: .ref mrd :: .int v_21 :: .int v_22 :: .int v_23 :: .int ste :: .int sma :: .int sde :: .int sli :: .ref mop :: .int sod :: .ref mst :: .int sto :: .ref mwd :: .ref msd :: .int sx_ :: .ref mws :: .int sun :: .ref mfr :: .ref mqu :: .ref miw :: .int sfi :: .int swa :: .long sdx :: .ref mim :: .ref mix :: .ref mmd :: []))), (mtp, .inl ((cs 2), 400, .inl gtp)), (mrd, .inl ((cs 0), 92, .inl g_24))]) [0, 1, 2] (by decide) rfl
      exact W.zret (v := 0) (ty := .boolean) hx hb hr rfl (fun t9 ht9 hW9 => ⟨⟨_, 0, rfl, rfl, ⟨v_21, v_22, v_23, g_24, (Rg.wk (lo2 := 0) (hi2 := 1) (Rg.c (c := 0) (k := 0) rfl) (by decide)), (NX.tr rp_13 rp_26), (fun h9 => absurd rfl h9), (fun _ => (rp_28 (hw_17.symm.trans c_30))), by rw [ht9]; exact hP9, hD9⟩⟩, hS.F ht9⟩) hS.2.2 dX12_isRowHere_43
    · have r_32 : Rg 1 1 x_20 := Rg.ne c_30 (Rg.of hw_17 r_25) (Rg.c (c := 0) (k := 0) rfl) (by decide)
      have r_33 : Rg 1 8 v_23 := ⟨Int.le_trans ((Rg.c (c := 1) (k := 1) rfl)).1 (rp_27 (fun q9 => c_30 (hw_17.trans q9))).2.1, Int.le_trans (rp_27 (fun q9 => c_30 (hw_17.trans q9))).2.2 ((Rg.c (c := 8) (k := 8) rfl)).2⟩
      refine lv_aload_n hx hb dX12_isRowHere_31 rfl (lv_at hl 0 rfl) ?_
      refine lv_iconst (v := 1) hx hb dX12_isRowHere_32 (by decide) ?_
      refine lv_iconst (v := 1) hx hb dX12_isRowHere_33 (by decide) ?_
      refine lv_bipush (v := 8) hx hb dX12_isRowHere_34 (by decide) ?_
      have hPc := hP.sub (ws' := [(m0, .inr (10, (.ref mtp :: .int sta :: .int sru :: .ref msg :: .ref mln :: .ref mcl :: .ref mcs :: .ref mrd :: .int v_21 :: .int v_22 :: .int v_23 :: .int ste :: .int sma :: .int sde :: .int sli :: .ref mop :: .int sod :: .ref mst :: .int sto :: .ref mwd :: .ref msd :: .int sx_ :: .ref mws :: .int sun :: .ref mfr :: .ref mqu :: .ref miw :: .int sfi :: .int swa :: .long sdx :: .ref mim :: .ref mix :: .ref mmd :: []))), (mtp, .inl ((cs 2), 400, .inl gtp)), (mrd, .inl ((cs 0), 92, .inl g_24))]) [0, 1, 2] rfl
      have hDc := hD.sub (ws' := [(m0, .inr (10, (.ref mtp :: .int sta :: .int sru :: .ref msg :: .ref mln :: .ref mcl :: .ref mcs :: .ref mrd :: .int v_21 :: .int v_22 :: .int v_23 :: .int ste :: .int sma :: .int sde :: .int sli :: .ref mop :: .int sod :: .ref mst :: .int sto :: .ref mwd :: .ref msd :: .int sx_ :: .ref mws :: .int sun :: .ref mfr :: .ref mqu :: .ref miw :: .int sfi :: .int swa :: .long sdx :: .ref mim :: .ref mix :: .ref mmd :: []))), (mtp, .inl ((cs 2), 400, .inl gtp)), (mrd, .inl ((cs 0), 92, .inl g_24))]) [0, 1, 2] (by decide) rfl
      have hFc := va_free (wc := [(m0, .inr (10, (.ref mtp :: .int sta :: .int sru :: .ref msg :: .ref mln :: .ref mcl :: .ref mcs :: .ref mrd :: .int v_21 :: .int v_22 :: .int v_23 :: .int ste :: .int sma :: .int sde :: .int sli :: .ref mop :: .int sod :: .ref mst :: .int sto :: .ref mwd :: .ref msd :: .int sx_ :: .ref mws :: .int sun :: .ref mfr :: .ref mqu :: .ref miw :: .int sfi :: .int swa :: .long sdx :: .ref mim :: .ref mix :: .ref mmd :: []))), (mtp, .inl ((cs 2), 400, .inl gtp)), (mrd, .inl ((cs 0), 92, .inl g_24))]) hD hS hA [0, 1, 2] rfl
      refine va_calli (va_runV (As := [.int 1, .int 1, .int 8]) (rest := []) ⟨hx, hb, hml, hown, hts⟩ (c_M_cellHere l D cs X H.size m0 mtp sta sru msg mln mcl mcs mrd v_21 v_22 v_23 ste sma sde sli mop sod mst sto mwd msd sx_ mws sun mfr mqu miw sfi swa sdx mim mix mmd gtp g_24 1 1 8 r_sta r_29 rp_26.2 (Rg.wk (lo2 := 0) (hi2 := 91) (Rg.c (c := 1) (k := 1) rfl) (by decide))) ⟨callB_of 3 hts (gd_C qq_6_86) rfl rfl rfl (hT _ qq_1_9) (hT _ qq_6_83) (by decide +kernel) (rm_R rfl rfl), (hT _ qq_6_85), (hT _ qs_2_10)⟩ (pr_V hPc hK hDc hN (hR.sub (wo' := []) [] rfl) hS hFc hX hXs (ci := 10) (q0 := 0) rfl rfl) rfl rfl hl.1 rfl (lv_room (Nat.le_of_ble_eq_true rfl)) dX12_isRowHere_36 ⟨Nat.le_of_ble_eq_true rfl, Nat.le_of_ble_eq_true rfl⟩) hS (fun q _ h => hFc q h) hFc (fun x_38 u_34 t_37 H1 locs ht9 hvm hw_35 hB_36 hz1 hk1 hS => ?_)
      obtain ⟨v_39, v_40, v_41, g_42, r_43, rp_44, rp_45, rp_46, hP1, hD1⟩ := hB_36
      rw [ht9] at hP1
      obtain ⟨hP, hD⟩ := va_join (wr := []) (w1 := [(m0, .inr (10, (.ref mtp :: .int sta :: .int sru :: .ref msg :: .ref mln :: .ref mcl :: .ref mcs :: .ref mrd :: .int v_39 :: .int v_40 :: .int v_41 :: .int ste :: .int sma :: .int sde :: .int sli :: .ref mop :: .int sod :: .ref mst :: .int sto :: .ref mwd :: .ref msd :: .int sx_ :: .ref mws :: .int sun :: .ref mfr :: .ref mqu :: .ref miw :: .int sfi :: .int swa :: .long sdx :: .ref mim :: .ref mix :: .ref mmd :: []))), (mtp, .inl ((cs 2), 400, .inl gtp)), (mrd, .inl ((cs 0), 92, .inl g_42))]) hP hD [0, 1, 2] [] rfl rfl (by decide) (by decide) hk1 hFc hP1 hD1
      generalize H1 = H at hP hS ⊢
      have hP : va_P D vwCl [(m0, .inr (10, (.ref mtp :: .int sta :: .int sru :: .ref msg :: .ref mln :: .ref mcl :: .ref mcs :: .ref mrd :: .int v_39 :: .int v_40 :: .int v_41 :: .int ste :: .int sma :: .int sde :: .int sli :: .ref mop :: .int sod :: .ref mst :: .int sto :: .ref mwd :: .ref msd :: .int sx_ :: .ref mws :: .int sun :: .ref mfr :: .ref mqu :: .ref miw :: .int sfi :: .int swa :: .long sdx :: .ref mim :: .ref mix :: .ref mmd :: []))), (mtp, .inl ((cs 2), 400, .inl gtp)), (mrd, .inl ((cs 0), 92, .inl g_42))] H := hP
      have hD : va_D A [(m0, .inr (10, (.ref mtp :: .int sta :: .int sru :: .ref msg :: .ref mln :: .ref mcl :: .ref mcs :: .ref mrd :: .int v_39 :: .int v_40 :: .int v_41 :: .int ste :: .int sma :: .int sde :: .int sli :: .ref mop :: .int sod :: .ref mst :: .int sto :: .ref mwd :: .ref msd :: .int sx_ :: .ref mws :: .int sun :: .ref mfr :: .ref mqu :: .ref miw :: .int sfi :: .int swa :: .long sdx :: .ref mim :: .ref mix :: .ref mmd :: []))), (mtp, .inl ((cs 2), 400, .inl gtp)), (mrd, .inl ((cs 0), 92, .inl g_42))] := hD
      have r_47 : Rg 0 400 v_39 := rp_44.rg r_29 r_sta
      refine lv_if_ne (tgt := 44) hx hb dX12_isRowHere_39 (by decide) (fun c_48 => ?_) (fun c_48 => ?_)
      · have r_49 : Rg 1 1 x_38 := Rg.ne c_48 (Rg.of hw_35 r_43) (Rg.c (c := 0) (k := 0) rfl) (by decide)
        have r_50 : Rg 1 8 v_41 := ⟨Int.le_trans ((Rg.c (c := 1) (k := 1) rfl)).1 (rp_45 (fun q9 => c_48 (hw_35.trans q9))).2.1, Int.le_trans (rp_45 (fun q9 => c_48 (hw_35.trans q9))).2.2 ((Rg.c (c := 8) (k := 8) rfl)).2⟩
        refine lv_iconst (v := 0) hx hb dX12_isRowHere_44 (by decide) ?_
        refine lv_istore_n (lv' := [(2, .int 0), (0, .ref m0), (1, .int b)]) hx hb dX12_isRowHere_45 rfl hl (by decide) rfl (fun ls hl => ?_)
        refine w_wh (σ := (Int32) × (Nat → Int32)) (fun x9 H locs ls => match x9 with | (v_69, g_70) => Rg 0 8 v_69 ∧ (RW g_42 g_70 (cN v_69)) ∧ va_P D vwCl [(m0, .inr (10, (.ref mtp :: .int sta :: .int sru :: .ref msg :: .ref mln :: .ref mcl :: .ref mcs :: .ref mrd :: .int v_39 :: .int v_40 :: .int v_41 :: .int ste :: .int sma :: .int sde :: .int sli :: .ref mop :: .int sod :: .ref mst :: .int sto :: .ref mwd :: .ref msd :: .int sx_ :: .ref mws :: .int sun :: .ref mfr :: .ref mqu :: .ref miw :: .int sfi :: .int swa :: .long sdx :: .ref mim :: .ref mix :: .ref mmd :: []))), (mtp, .inl ((cs 2), 400, .inl gtp)), (mrd, .inl ((cs 0), 92, .inl g_70))] H ∧ va_D A [(m0, .inr (10, (.ref mtp :: .int sta :: .int sru :: .ref msg :: .ref mln :: .ref mcl :: .ref mcs :: .ref mrd :: .int v_39 :: .int v_40 :: .int v_41 :: .int ste :: .int sma :: .int sde :: .int sli :: .ref mop :: .int sod :: .ref mst :: .int sto :: .ref mwd :: .ref msd :: .int sx_ :: .ref mws :: .int sun :: .ref mfr :: .ref mqu :: .ref miw :: .int sfi :: .int swa :: .long sdx :: .ref mim :: .ref mix :: .ref mmd :: []))), (mtp, .inl ((cs 2), 400, .inl gtp)), (mrd, .inl ((cs 0), 92, .inl g_70))] ∧ va_S A s.heap H locs ∧ lv_has ls 3 [(2, .int v_69), (0, .ref m0), (1, .int b)]) (fun x9 => match x9 with | (v_69, g_70) => (8 - Int32.toInt v_69).toNat) 46 ?_ (0, g_42) H locs ls ⟨(Rg.wk (lo2 := 0) (hi2 := 8) (Rg.c (c := 0) (k := 0) rfl) (by decide)), RW.nil, hP, hD, hS, lv_sub hl [0, 1, 2] rfl⟩
        rintro ⟨v_69, g_70⟩ H locs ls ⟨r_716, iv_717, hP, hD, hS, hl⟩ ih_715
        refine lv_iload_n hx hb dX12_isRowHere_46 rfl (lv_at hl 0 rfl) ?_
        refine lv_bipush (v := 8) hx hb dX12_isRowHere_47 (by decide) ?_
        refine lv_icmp_ge (tgt := 162) hx hb dX12_isRowHere_49 (by decide) (fun c_718 => ?_) (fun c_718 => ?_)
        · have r_719 : Rg 8 8 v_69 := Rg.le_r c_718 (Rg.c (c := 8) (k := 8) rfl) r_716 (by decide)
          refine lv_iconst (v := 1) hx hb dX12_isRowHere_162 (by decide) ?_
          refine W.widen (k := 0) (n := 0) (Nat.le_of_ble_eq_true rfl) (Nat.le_of_ble_eq_true rfl) ?_
          have hP9 := hP.sub (ws' := [(m0, .inr (10, (.ref mtp :: .int sta :: .int sru :: .ref msg :: .ref mln :: .ref mcl :: .ref mcs :: .ref mrd :: .int v_39 :: .int v_40 :: .int v_41 :: .int ste :: .int sma :: .int sde :: .int sli :: .ref mop :: .int sod :: .ref mst :: .int sto :: .ref mwd :: .ref msd :: .int sx_ :: .ref mws :: .int sun :: .ref mfr :: .ref mqu :: .ref miw :: .int sfi :: .int swa :: .long sdx :: .ref mim :: .ref mix :: .ref mmd :: []))), (mtp, .inl ((cs 2), 400, .inl gtp)), (mrd, .inl ((cs 0), 92, .inl g_70))]) [0, 1, 2] rfl
          have hD9 := hD.sub (ws' := [(m0, .inr (10, (.ref mtp :: .int sta :: .int sru :: .ref msg :: .ref mln :: .ref mcl :: .ref mcs :: .ref mrd :: .int v_39 :: .int v_40 :: .int v_41 :: .int ste :: .int sma :: .int sde :: .int sli :: .ref mop :: .int sod :: .ref mst :: .int sto :: .ref mwd :: .ref msd :: .int sx_ :: .ref mws :: .int sun :: .ref mfr :: .ref mqu :: .ref miw :: .int sfi :: .int swa :: .long sdx :: .ref mim :: .ref mix :: .ref mmd :: []))), (mtp, .inl ((cs 2), 400, .inl gtp)), (mrd, .inl ((cs 0), 92, .inl g_70))]) [0, 1, 2] (by decide) rfl
          exact W.zret (v := 1) (ty := .boolean) hx hb hr rfl (fun t9 ht9 hW9 => ⟨⟨_, 1, rfl, rfl, ⟨v_39, v_40, v_41, g_70, (Rg.wk (lo2 := 0) (hi2 := 1) (Rg.c (c := 1) (k := 1) rfl) (by decide)), (NX.tr (NX.tr rp_13 rp_26) rp_44), (fun _ => RW.rk hri (rp_27 (fun q9 => c_30 (hw_17.trans q9))).1 (rp_45 (fun q9 => c_48 (hw_35.trans q9))).1 r_33 r_50 iv_717 (le_cN c_718 (Rg.c (c := 8) (k := 8) rfl) r_719 (by decide))), (fun h9 => absurd h9 (by decide)), by rw [ht9]; exact hP9, hD9⟩⟩, hS.F ht9⟩) hS.2.2 dX12_isRowHere_163
        · have r_720 : Rg 0 7 v_69 := Rg.lt_l (nle_lt c_718) r_716 (Rg.c (c := 8) (k := 8) rfl) (by decide)
          refine lv_aload_n hx hb dX12_isRowHere_52 rfl (lv_at hl 1 rfl) ?_
          refine va_get (D := D) (ci := 10) (v := .ref mrd) (C := "WrongHoleModel") (T := TX12) (N := 33) hx hb hts (iq_RX12 _) hown hK hP 0 rfl rfl 7 (by decide) (hT _ qq_5_159) (fun _ h9 => h9) rfl dX12_isRowHere_53 ?_
          refine lv_bipush (v := 10) hx hb dX12_isRowHere_56 (by decide) ?_
          refine lv_iload_n hx hb dX12_isRowHere_58 rfl (lv_at hl 0 rfl) ?_
          refine lv_iadd hx hb dX12_isRowHere_59 ?_
          refine lv_topi (fun x_800 e_801 => ?_)
          have r_802 : Rg 10 17 x_800 := Rg.add e_801 (Rg.c (c := 10) (k := 10) rfl) r_720 (by decide)
          refine lv_iconst (v := (-1)) hx hb dX12_isRowHere_60 (by decide) ?_
          have hi_803 : vp_in x_800 92 := Rg.in r_802 (by decide)
          refine va_iast hx hb hK hP hD hS 2 0 rfl rfl hi_803 dX12_isRowHere_61 (fun H locs hP hD hS => ?_)
          obtain ⟨g_804, rb_805, hP, hD⟩ : ∃ g_804 : Nat → Int32, (g_804 = upd g_70 (cN x_800) (-1)) ∧ va_P D vwCl [(m0, .inr (10, (.ref mtp :: .int sta :: .int sru :: .ref msg :: .ref mln :: .ref mcl :: .ref mcs :: .ref mrd :: .int v_39 :: .int v_40 :: .int v_41 :: .int ste :: .int sma :: .int sde :: .int sli :: .ref mop :: .int sod :: .ref mst :: .int sto :: .ref mwd :: .ref msd :: .int sx_ :: .ref mws :: .int sun :: .ref mfr :: .ref mqu :: .ref miw :: .int sfi :: .int swa :: .long sdx :: .ref mim :: .ref mix :: .ref mmd :: []))), (mtp, .inl ((cs 2), 400, .inl gtp)), (mrd, .inl ((cs 0), 92, .inl g_804))] H ∧ va_D A [(m0, .inr (10, (.ref mtp :: .int sta :: .int sru :: .ref msg :: .ref mln :: .ref mcl :: .ref mcs :: .ref mrd :: .int v_39 :: .int v_40 :: .int v_41 :: .int ste :: .int sma :: .int sde :: .int sli :: .ref mop :: .int sod :: .ref mst :: .int sto :: .ref mwd :: .ref msd :: .int sx_ :: .ref mws :: .int sun :: .ref mfr :: .ref mqu :: .ref miw :: .int sfi :: .int swa :: .long sdx :: .ref mim :: .ref mix :: .ref mmd :: []))), (mtp, .inl ((cs 2), 400, .inl gtp)), (mrd, .inl ((cs 0), 92, .inl g_804))] := ⟨_, rfl, hP, hD⟩
          refine lv_aload_n hx hb dX12_isRowHere_62 rfl (lv_at hl 1 rfl) ?_
          refine va_get (D := D) (ci := 10) (v := .ref mrd) (C := "WrongHoleModel") (T := TX12) (N := 33) hx hb hts (iq_RX12 _) hown hK hP 0 rfl rfl 7 (by decide) (hT _ qq_5_159) (fun _ h9 => h9) rfl dX12_isRowHere_63 ?_
          refine lv_bipush (v := 18) hx hb dX12_isRowHere_66 (by decide) ?_
          refine lv_iconst (v := 5) hx hb dX12_isRowHere_68 (by decide) ?_
          refine lv_iload_n hx hb dX12_isRowHere_69 rfl (lv_at hl 0 rfl) ?_
          refine lv_imul hx hb dX12_isRowHere_70 ?_
          refine lv_topi (fun x_806 e_807 => ?_)
          have r_808 : Rg 0 35 x_806 := Rg.mul (ha := 5) (hb := 7) e_807 (Rg.wk (lo2 := 0) (hi2 := 5) (Rg.c (c := 5) (k := 5) rfl) (by decide)) r_720 (by decide)
          refine lv_iadd hx hb dX12_isRowHere_71 ?_
          refine lv_topi (fun x_809 e_810 => ?_)
          have r_811 : Rg 18 53 x_809 := Rg.add e_810 (Rg.c (c := 18) (k := 18) rfl) r_808 (by decide)
          refine lv_iconst (v := 0) hx hb dX12_isRowHere_72 (by decide) ?_
          have hi_812 : vp_in x_809 92 := Rg.in r_811 (by decide)
          refine va_iast hx hb hK hP hD hS 2 0 rfl rfl hi_812 dX12_isRowHere_73 (fun H locs hP hD hS => ?_)
          obtain ⟨g_813, rb_814, hP, hD⟩ : ∃ g_813 : Nat → Int32, (g_813 = upd g_804 (cN x_809) 0) ∧ va_P D vwCl [(m0, .inr (10, (.ref mtp :: .int sta :: .int sru :: .ref msg :: .ref mln :: .ref mcl :: .ref mcs :: .ref mrd :: .int v_39 :: .int v_40 :: .int v_41 :: .int ste :: .int sma :: .int sde :: .int sli :: .ref mop :: .int sod :: .ref mst :: .int sto :: .ref mwd :: .ref msd :: .int sx_ :: .ref mws :: .int sun :: .ref mfr :: .ref mqu :: .ref miw :: .int sfi :: .int swa :: .long sdx :: .ref mim :: .ref mix :: .ref mmd :: []))), (mtp, .inl ((cs 2), 400, .inl gtp)), (mrd, .inl ((cs 0), 92, .inl g_813))] H ∧ va_D A [(m0, .inr (10, (.ref mtp :: .int sta :: .int sru :: .ref msg :: .ref mln :: .ref mcl :: .ref mcs :: .ref mrd :: .int v_39 :: .int v_40 :: .int v_41 :: .int ste :: .int sma :: .int sde :: .int sli :: .ref mop :: .int sod :: .ref mst :: .int sto :: .ref mwd :: .ref msd :: .int sx_ :: .ref mws :: .int sun :: .ref mfr :: .ref mqu :: .ref miw :: .int sfi :: .int swa :: .long sdx :: .ref mim :: .ref mix :: .ref mmd :: []))), (mtp, .inl ((cs 2), 400, .inl gtp)), (mrd, .inl ((cs 0), 92, .inl g_813))] := ⟨_, rfl, hP, hD⟩
          refine lv_aload_n hx hb dX12_isRowHere_74 rfl (lv_at hl 1 rfl) ?_
          refine va_get (D := D) (ci := 10) (v := .ref mrd) (C := "WrongHoleModel") (T := TX12) (N := 33) hx hb hts (iq_RX12 _) hown hK hP 0 rfl rfl 7 (by decide) (hT _ qq_5_159) (fun _ h9 => h9) rfl dX12_isRowHere_75 ?_
          refine lv_bipush (v := 18) hx hb dX12_isRowHere_78 (by decide) ?_
          refine lv_iconst (v := 5) hx hb dX12_isRowHere_80 (by decide) ?_
          refine lv_iload_n hx hb dX12_isRowHere_81 rfl (lv_at hl 0 rfl) ?_
          refine lv_imul hx hb dX12_isRowHere_82 ?_
          refine lv_topi (fun x_815 e_816 => ?_)
          have r_817 : Rg 0 35 x_815 := Rg.mul (ha := 5) (hb := 7) e_816 (Rg.wk (lo2 := 0) (hi2 := 5) (Rg.c (c := 5) (k := 5) rfl) (by decide)) r_720 (by decide)
          refine lv_iadd hx hb dX12_isRowHere_83 ?_
          refine lv_topi (fun x_818 e_819 => ?_)
          have r_820 : Rg 18 53 x_818 := Rg.add e_819 (Rg.c (c := 18) (k := 18) rfl) r_817 (by decide)
          refine lv_iconst (v := 1) hx hb dX12_isRowHere_84 (by decide) ?_
          refine lv_iadd hx hb dX12_isRowHere_85 ?_
          refine lv_topi (fun x_821 e_822 => ?_)
          have r_823 : Rg 19 54 x_821 := Rg.add e_822 r_820 (Rg.c (c := 1) (k := 1) rfl) (by decide)
          refine lv_iconst (v := 0) hx hb dX12_isRowHere_86 (by decide) ?_
          have hi_824 : vp_in x_821 92 := Rg.in r_823 (by decide)
          refine va_iast hx hb hK hP hD hS 2 0 rfl rfl hi_824 dX12_isRowHere_87 (fun H locs hP hD hS => ?_)
          obtain ⟨g_825, rb_826, hP, hD⟩ : ∃ g_825 : Nat → Int32, (g_825 = upd g_813 (cN x_821) 0) ∧ va_P D vwCl [(m0, .inr (10, (.ref mtp :: .int sta :: .int sru :: .ref msg :: .ref mln :: .ref mcl :: .ref mcs :: .ref mrd :: .int v_39 :: .int v_40 :: .int v_41 :: .int ste :: .int sma :: .int sde :: .int sli :: .ref mop :: .int sod :: .ref mst :: .int sto :: .ref mwd :: .ref msd :: .int sx_ :: .ref mws :: .int sun :: .ref mfr :: .ref mqu :: .ref miw :: .int sfi :: .int swa :: .long sdx :: .ref mim :: .ref mix :: .ref mmd :: []))), (mtp, .inl ((cs 2), 400, .inl gtp)), (mrd, .inl ((cs 0), 92, .inl g_825))] H ∧ va_D A [(m0, .inr (10, (.ref mtp :: .int sta :: .int sru :: .ref msg :: .ref mln :: .ref mcl :: .ref mcs :: .ref mrd :: .int v_39 :: .int v_40 :: .int v_41 :: .int ste :: .int sma :: .int sde :: .int sli :: .ref mop :: .int sod :: .ref mst :: .int sto :: .ref mwd :: .ref msd :: .int sx_ :: .ref mws :: .int sun :: .ref mfr :: .ref mqu :: .ref miw :: .int sfi :: .int swa :: .long sdx :: .ref mim :: .ref mix :: .ref mmd :: []))), (mtp, .inl ((cs 2), 400, .inl gtp)), (mrd, .inl ((cs 0), 92, .inl g_825))] := ⟨_, rfl, hP, hD⟩
          refine lv_aload_n hx hb dX12_isRowHere_88 rfl (lv_at hl 1 rfl) ?_
          refine va_get (D := D) (ci := 10) (v := .ref mrd) (C := "WrongHoleModel") (T := TX12) (N := 33) hx hb hts (iq_RX12 _) hown hK hP 0 rfl rfl 7 (by decide) (hT _ qq_5_159) (fun _ h9 => h9) rfl dX12_isRowHere_89 ?_
          refine lv_bipush (v := 18) hx hb dX12_isRowHere_92 (by decide) ?_
          refine lv_iconst (v := 5) hx hb dX12_isRowHere_94 (by decide) ?_
          refine lv_iload_n hx hb dX12_isRowHere_95 rfl (lv_at hl 0 rfl) ?_
          refine lv_imul hx hb dX12_isRowHere_96 ?_
          refine lv_topi (fun x_827 e_828 => ?_)
          have r_829 : Rg 0 35 x_827 := Rg.mul (ha := 5) (hb := 7) e_828 (Rg.wk (lo2 := 0) (hi2 := 5) (Rg.c (c := 5) (k := 5) rfl) (by decide)) r_720 (by decide)
          refine lv_iadd hx hb dX12_isRowHere_97 ?_
          refine lv_topi (fun x_830 e_831 => ?_)
          have r_832 : Rg 18 53 x_830 := Rg.add e_831 (Rg.c (c := 18) (k := 18) rfl) r_829 (by decide)
          refine lv_iconst (v := 2) hx hb dX12_isRowHere_98 (by decide) ?_
          refine lv_iadd hx hb dX12_isRowHere_99 ?_
          refine lv_topi (fun x_833 e_834 => ?_)
          have r_835 : Rg 20 55 x_833 := Rg.add e_834 r_832 (Rg.c (c := 2) (k := 2) rfl) (by decide)
          refine lv_iconst (v := 1) hx hb dX12_isRowHere_100 (by decide) ?_
          have hi_836 : vp_in x_833 92 := Rg.in r_835 (by decide)
          refine va_iast hx hb hK hP hD hS 2 0 rfl rfl hi_836 dX12_isRowHere_101 (fun H locs hP hD hS => ?_)
          obtain ⟨g_837, rb_838, hP, hD⟩ : ∃ g_837 : Nat → Int32, (g_837 = upd g_825 (cN x_833) 1) ∧ va_P D vwCl [(m0, .inr (10, (.ref mtp :: .int sta :: .int sru :: .ref msg :: .ref mln :: .ref mcl :: .ref mcs :: .ref mrd :: .int v_39 :: .int v_40 :: .int v_41 :: .int ste :: .int sma :: .int sde :: .int sli :: .ref mop :: .int sod :: .ref mst :: .int sto :: .ref mwd :: .ref msd :: .int sx_ :: .ref mws :: .int sun :: .ref mfr :: .ref mqu :: .ref miw :: .int sfi :: .int swa :: .long sdx :: .ref mim :: .ref mix :: .ref mmd :: []))), (mtp, .inl ((cs 2), 400, .inl gtp)), (mrd, .inl ((cs 0), 92, .inl g_837))] H ∧ va_D A [(m0, .inr (10, (.ref mtp :: .int sta :: .int sru :: .ref msg :: .ref mln :: .ref mcl :: .ref mcs :: .ref mrd :: .int v_39 :: .int v_40 :: .int v_41 :: .int ste :: .int sma :: .int sde :: .int sli :: .ref mop :: .int sod :: .ref mst :: .int sto :: .ref mwd :: .ref msd :: .int sx_ :: .ref mws :: .int sun :: .ref mfr :: .ref mqu :: .ref miw :: .int sfi :: .int swa :: .long sdx :: .ref mim :: .ref mix :: .ref mmd :: []))), (mtp, .inl ((cs 2), 400, .inl gtp)), (mrd, .inl ((cs 0), 92, .inl g_837))] := ⟨_, rfl, hP, hD⟩
          refine lv_aload_n hx hb dX12_isRowHere_102 rfl (lv_at hl 1 rfl) ?_
          refine va_get (D := D) (ci := 10) (v := .ref mrd) (C := "WrongHoleModel") (T := TX12) (N := 33) hx hb hts (iq_RX12 _) hown hK hP 0 rfl rfl 7 (by decide) (hT _ qq_5_159) (fun _ h9 => h9) rfl dX12_isRowHere_103 ?_
          refine lv_bipush (v := 18) hx hb dX12_isRowHere_106 (by decide) ?_
          refine lv_iconst (v := 5) hx hb dX12_isRowHere_108 (by decide) ?_
          refine lv_iload_n hx hb dX12_isRowHere_109 rfl (lv_at hl 0 rfl) ?_
          refine lv_imul hx hb dX12_isRowHere_110 ?_
          refine lv_topi (fun x_839 e_840 => ?_)
          have r_841 : Rg 0 35 x_839 := Rg.mul (ha := 5) (hb := 7) e_840 (Rg.wk (lo2 := 0) (hi2 := 5) (Rg.c (c := 5) (k := 5) rfl) (by decide)) r_720 (by decide)
          refine lv_iadd hx hb dX12_isRowHere_111 ?_
          refine lv_topi (fun x_842 e_843 => ?_)
          have r_844 : Rg 18 53 x_842 := Rg.add e_843 (Rg.c (c := 18) (k := 18) rfl) r_841 (by decide)
          refine lv_iconst (v := 3) hx hb dX12_isRowHere_112 (by decide) ?_
          refine lv_iadd hx hb dX12_isRowHere_113 ?_
          refine lv_topi (fun x_845 e_846 => ?_)
          have r_847 : Rg 21 56 x_845 := Rg.add e_846 r_844 (Rg.c (c := 3) (k := 3) rfl) (by decide)
          refine lv_iconst (v := 2) hx hb dX12_isRowHere_114 (by decide) ?_
          have hi_848 : vp_in x_845 92 := Rg.in r_847 (by decide)
          refine va_iast hx hb hK hP hD hS 2 0 rfl rfl hi_848 dX12_isRowHere_115 (fun H locs hP hD hS => ?_)
          obtain ⟨g_849, rb_850, hP, hD⟩ : ∃ g_849 : Nat → Int32, (g_849 = upd g_837 (cN x_845) 2) ∧ va_P D vwCl [(m0, .inr (10, (.ref mtp :: .int sta :: .int sru :: .ref msg :: .ref mln :: .ref mcl :: .ref mcs :: .ref mrd :: .int v_39 :: .int v_40 :: .int v_41 :: .int ste :: .int sma :: .int sde :: .int sli :: .ref mop :: .int sod :: .ref mst :: .int sto :: .ref mwd :: .ref msd :: .int sx_ :: .ref mws :: .int sun :: .ref mfr :: .ref mqu :: .ref miw :: .int sfi :: .int swa :: .long sdx :: .ref mim :: .ref mix :: .ref mmd :: []))), (mtp, .inl ((cs 2), 400, .inl gtp)), (mrd, .inl ((cs 0), 92, .inl g_849))] H ∧ va_D A [(m0, .inr (10, (.ref mtp :: .int sta :: .int sru :: .ref msg :: .ref mln :: .ref mcl :: .ref mcs :: .ref mrd :: .int v_39 :: .int v_40 :: .int v_41 :: .int ste :: .int sma :: .int sde :: .int sli :: .ref mop :: .int sod :: .ref mst :: .int sto :: .ref mwd :: .ref msd :: .int sx_ :: .ref mws :: .int sun :: .ref mfr :: .ref mqu :: .ref miw :: .int sfi :: .int swa :: .long sdx :: .ref mim :: .ref mix :: .ref mmd :: []))), (mtp, .inl ((cs 2), 400, .inl gtp)), (mrd, .inl ((cs 0), 92, .inl g_849))] := ⟨_, rfl, hP, hD⟩
          refine lv_aload_n hx hb dX12_isRowHere_116 rfl (lv_at hl 1 rfl) ?_
          refine va_get (D := D) (ci := 10) (v := .ref mrd) (C := "WrongHoleModel") (T := TX12) (N := 33) hx hb hts (iq_RX12 _) hown hK hP 0 rfl rfl 7 (by decide) (hT _ qq_5_159) (fun _ h9 => h9) rfl dX12_isRowHere_117 ?_
          refine lv_bipush (v := 18) hx hb dX12_isRowHere_120 (by decide) ?_
          refine lv_iconst (v := 5) hx hb dX12_isRowHere_122 (by decide) ?_
          refine lv_iload_n hx hb dX12_isRowHere_123 rfl (lv_at hl 0 rfl) ?_
          refine lv_imul hx hb dX12_isRowHere_124 ?_
          refine lv_topi (fun x_851 e_852 => ?_)
          have r_853 : Rg 0 35 x_851 := Rg.mul (ha := 5) (hb := 7) e_852 (Rg.wk (lo2 := 0) (hi2 := 5) (Rg.c (c := 5) (k := 5) rfl) (by decide)) r_720 (by decide)
          refine lv_iadd hx hb dX12_isRowHere_125 ?_
          refine lv_topi (fun x_854 e_855 => ?_)
          have r_856 : Rg 18 53 x_854 := Rg.add e_855 (Rg.c (c := 18) (k := 18) rfl) r_853 (by decide)
          refine lv_iconst (v := 4) hx hb dX12_isRowHere_126 (by decide) ?_
          refine lv_iadd hx hb dX12_isRowHere_127 ?_
          refine lv_topi (fun x_857 e_858 => ?_)
          have r_859 : Rg 22 57 x_857 := Rg.add e_858 r_856 (Rg.c (c := 4) (k := 4) rfl) (by decide)
          refine lv_iconst (v := 1) hx hb dX12_isRowHere_128 (by decide) ?_
          have hi_860 : vp_in x_857 92 := Rg.in r_859 (by decide)
          refine va_iast hx hb hK hP hD hS 2 0 rfl rfl hi_860 dX12_isRowHere_129 (fun H locs hP hD hS => ?_)
          obtain ⟨g_861, rb_862, hP, hD⟩ : ∃ g_861 : Nat → Int32, (g_861 = upd g_849 (cN x_857) 1) ∧ va_P D vwCl [(m0, .inr (10, (.ref mtp :: .int sta :: .int sru :: .ref msg :: .ref mln :: .ref mcl :: .ref mcs :: .ref mrd :: .int v_39 :: .int v_40 :: .int v_41 :: .int ste :: .int sma :: .int sde :: .int sli :: .ref mop :: .int sod :: .ref mst :: .int sto :: .ref mwd :: .ref msd :: .int sx_ :: .ref mws :: .int sun :: .ref mfr :: .ref mqu :: .ref miw :: .int sfi :: .int swa :: .long sdx :: .ref mim :: .ref mix :: .ref mmd :: []))), (mtp, .inl ((cs 2), 400, .inl gtp)), (mrd, .inl ((cs 0), 92, .inl g_861))] H ∧ va_D A [(m0, .inr (10, (.ref mtp :: .int sta :: .int sru :: .ref msg :: .ref mln :: .ref mcl :: .ref mcs :: .ref mrd :: .int v_39 :: .int v_40 :: .int v_41 :: .int ste :: .int sma :: .int sde :: .int sli :: .ref mop :: .int sod :: .ref mst :: .int sto :: .ref mwd :: .ref msd :: .int sx_ :: .ref mws :: .int sun :: .ref mfr :: .ref mqu :: .ref miw :: .int sfi :: .int swa :: .long sdx :: .ref mim :: .ref mix :: .ref mmd :: []))), (mtp, .inl ((cs 2), 400, .inl gtp)), (mrd, .inl ((cs 0), 92, .inl g_861))] := ⟨_, rfl, hP, hD⟩
          refine lv_aload_n hx hb dX12_isRowHere_130 rfl (lv_at hl 1 rfl) ?_
          refine va_get (D := D) (ci := 10) (v := .ref mrd) (C := "WrongHoleModel") (T := TX12) (N := 33) hx hb hts (iq_RX12 _) hown hK hP 0 rfl rfl 7 (by decide) (hT _ qq_5_159) (fun _ h9 => h9) rfl dX12_isRowHere_131 ?_
          refine lv_bipush (v := 58) hx hb dX12_isRowHere_134 (by decide) ?_
          refine lv_iconst (v := 2) hx hb dX12_isRowHere_136 (by decide) ?_
          refine lv_iload_n hx hb dX12_isRowHere_137 rfl (lv_at hl 0 rfl) ?_
          refine lv_imul hx hb dX12_isRowHere_138 ?_
          refine lv_topi (fun x_863 e_864 => ?_)
          have r_865 : Rg 0 14 x_863 := Rg.mul (ha := 2) (hb := 7) e_864 (Rg.wk (lo2 := 0) (hi2 := 2) (Rg.c (c := 2) (k := 2) rfl) (by decide)) r_720 (by decide)
          refine lv_iadd hx hb dX12_isRowHere_139 ?_
          refine lv_topi (fun x_866 e_867 => ?_)
          have r_868 : Rg 58 72 x_866 := Rg.add e_867 (Rg.c (c := 58) (k := 58) rfl) r_865 (by decide)
          refine lv_iconst (v := 0) hx hb dX12_isRowHere_140 (by decide) ?_
          have hi_869 : vp_in x_866 92 := Rg.in r_868 (by decide)
          refine va_iast hx hb hK hP hD hS 2 0 rfl rfl hi_869 dX12_isRowHere_141 (fun H locs hP hD hS => ?_)
          obtain ⟨g_870, rb_871, hP, hD⟩ : ∃ g_870 : Nat → Int32, (g_870 = upd g_861 (cN x_866) 0) ∧ va_P D vwCl [(m0, .inr (10, (.ref mtp :: .int sta :: .int sru :: .ref msg :: .ref mln :: .ref mcl :: .ref mcs :: .ref mrd :: .int v_39 :: .int v_40 :: .int v_41 :: .int ste :: .int sma :: .int sde :: .int sli :: .ref mop :: .int sod :: .ref mst :: .int sto :: .ref mwd :: .ref msd :: .int sx_ :: .ref mws :: .int sun :: .ref mfr :: .ref mqu :: .ref miw :: .int sfi :: .int swa :: .long sdx :: .ref mim :: .ref mix :: .ref mmd :: []))), (mtp, .inl ((cs 2), 400, .inl gtp)), (mrd, .inl ((cs 0), 92, .inl g_870))] H ∧ va_D A [(m0, .inr (10, (.ref mtp :: .int sta :: .int sru :: .ref msg :: .ref mln :: .ref mcl :: .ref mcs :: .ref mrd :: .int v_39 :: .int v_40 :: .int v_41 :: .int ste :: .int sma :: .int sde :: .int sli :: .ref mop :: .int sod :: .ref mst :: .int sto :: .ref mwd :: .ref msd :: .int sx_ :: .ref mws :: .int sun :: .ref mfr :: .ref mqu :: .ref miw :: .int sfi :: .int swa :: .long sdx :: .ref mim :: .ref mix :: .ref mmd :: []))), (mtp, .inl ((cs 2), 400, .inl gtp)), (mrd, .inl ((cs 0), 92, .inl g_870))] := ⟨_, rfl, hP, hD⟩
          refine lv_aload_n hx hb dX12_isRowHere_142 rfl (lv_at hl 1 rfl) ?_
          refine va_get (D := D) (ci := 10) (v := .ref mrd) (C := "WrongHoleModel") (T := TX12) (N := 33) hx hb hts (iq_RX12 _) hown hK hP 0 rfl rfl 7 (by decide) (hT _ qq_5_159) (fun _ h9 => h9) rfl dX12_isRowHere_143 ?_
          refine lv_bipush (v := 58) hx hb dX12_isRowHere_146 (by decide) ?_
          refine lv_iconst (v := 2) hx hb dX12_isRowHere_148 (by decide) ?_
          refine lv_iload_n hx hb dX12_isRowHere_149 rfl (lv_at hl 0 rfl) ?_
          refine lv_imul hx hb dX12_isRowHere_150 ?_
          refine lv_topi (fun x_872 e_873 => ?_)
          have r_874 : Rg 0 14 x_872 := Rg.mul (ha := 2) (hb := 7) e_873 (Rg.wk (lo2 := 0) (hi2 := 2) (Rg.c (c := 2) (k := 2) rfl) (by decide)) r_720 (by decide)
          refine lv_iadd hx hb dX12_isRowHere_151 ?_
          refine lv_topi (fun x_875 e_876 => ?_)
          have r_877 : Rg 58 72 x_875 := Rg.add e_876 (Rg.c (c := 58) (k := 58) rfl) r_874 (by decide)
          refine lv_iconst (v := 1) hx hb dX12_isRowHere_152 (by decide) ?_
          refine lv_iadd hx hb dX12_isRowHere_153 ?_
          refine lv_topi (fun x_878 e_879 => ?_)
          have r_880 : Rg 59 73 x_878 := Rg.add e_879 r_877 (Rg.c (c := 1) (k := 1) rfl) (by decide)
          refine lv_iconst (v := 0) hx hb dX12_isRowHere_154 (by decide) ?_
          have hi_881 : vp_in x_878 92 := Rg.in r_880 (by decide)
          refine va_iast hx hb hK hP hD hS 2 0 rfl rfl hi_881 dX12_isRowHere_155 (fun H locs hP hD hS => ?_)
          obtain ⟨g_882, rb_883, hP, hD⟩ : ∃ g_882 : Nat → Int32, (g_882 = upd g_870 (cN x_878) 0) ∧ va_P D vwCl [(m0, .inr (10, (.ref mtp :: .int sta :: .int sru :: .ref msg :: .ref mln :: .ref mcl :: .ref mcs :: .ref mrd :: .int v_39 :: .int v_40 :: .int v_41 :: .int ste :: .int sma :: .int sde :: .int sli :: .ref mop :: .int sod :: .ref mst :: .int sto :: .ref mwd :: .ref msd :: .int sx_ :: .ref mws :: .int sun :: .ref mfr :: .ref mqu :: .ref miw :: .int sfi :: .int swa :: .long sdx :: .ref mim :: .ref mix :: .ref mmd :: []))), (mtp, .inl ((cs 2), 400, .inl gtp)), (mrd, .inl ((cs 0), 92, .inl g_882))] H ∧ va_D A [(m0, .inr (10, (.ref mtp :: .int sta :: .int sru :: .ref msg :: .ref mln :: .ref mcl :: .ref mcs :: .ref mrd :: .int v_39 :: .int v_40 :: .int v_41 :: .int ste :: .int sma :: .int sde :: .int sli :: .ref mop :: .int sod :: .ref mst :: .int sto :: .ref mwd :: .ref msd :: .int sx_ :: .ref mws :: .int sun :: .ref mfr :: .ref mqu :: .ref miw :: .int sfi :: .int swa :: .long sdx :: .ref mim :: .ref mix :: .ref mmd :: []))), (mtp, .inl ((cs 2), 400, .inl gtp)), (mrd, .inl ((cs 0), 92, .inl g_882))] := ⟨_, rfl, hP, hD⟩
          obtain ⟨x_884, e_885⟩ : ∃ z : Int32, z = v_69 + Int32.ofInt 1 := ⟨_, rfl⟩
          have r_886 : Rg 1 8 x_884 := Rg.add e_885 r_720 (Rg.c (c := Int32.ofInt 1) (k := 1) rfl) (by decide)
          refine lv_iinc (v := x_884) (lv' := [(2, .int x_884), (0, .ref m0), (1, .int b)]) hx hb dX12_isRowHere_156 hl (k := 0) rfl (e_885.symm) (by decide) rfl (fun ls hl => ?_)
          refine lv_goto (tgt := 46) hx hb dX12_isRowHere_159 (by decide) ?_
          exact ih_715 (x_884, g_882) _ _ _ ⟨(Rg.wk (lo2 := 0) (hi2 := 8) r_886 (by decide)), (by rw [(cN_add (k := 1) e_885 r_720 (Rg.c (c := Int32.ofInt 1) (k := 1) rfl) (by decide))]; exact RW.st iv_717 (cN_lt (n := 8) r_720 (by decide)) rb_805 rb_814 rb_826 rb_838 rb_850 rb_862 rb_871 rb_883 (ix_add (k := 10) e_801 r_720 (by decide) ⟨by decide, rfl⟩) (ix5a r_720 e_807 e_810) (ix5 (w := 0) (c := 18) (k := 1) r_720 rfl (by decide) rfl (by decide) e_816 e_819 e_822) (ix5 (w := 0) (c := 18) (k := 2) r_720 rfl (by decide) rfl (by decide) e_828 e_831 e_834) (ix5 (w := 0) (c := 18) (k := 3) r_720 rfl (by decide) rfl (by decide) e_840 e_843 e_846) (ix5 (w := 0) (c := 18) (k := 4) r_720 rfl (by decide) rfl (by decide) e_852 e_855 e_858) (ge_cN (n := 58) r_868 (by decide)) (ge_cN (n := 58) r_880 (by decide))), hP, hD, hS, lv_sub hl [0, 1, 2] rfl⟩ (ms_up e_885 r_720 (Rg.c (c := Int32.ofInt 1) (k := 1) rfl) (by decide))
      · have r_51 : Rg 0 0 x_38 := Rg.eq_l c_48 (Rg.of hw_35 r_43) (Rg.c (c := 0) (k := 0) rfl) (by decide)
        refine lv_iconst (v := 0) hx hb dX12_isRowHere_42 (by decide) ?_
        refine W.widen (k := 0) (n := 0) (Nat.le_of_ble_eq_true rfl) (Nat.le_of_ble_eq_true rfl) ?_
        have hP9 := hP.sub (ws' := [(m0, .inr (10, (.ref mtp :: .int sta :: .int sru :: .ref msg :: .ref mln :: .ref mcl :: .ref mcs :: .ref mrd :: .int v_39 :: .int v_40 :: .int v_41 :: .int ste :: .int sma :: .int sde :: .int sli :: .ref mop :: .int sod :: .ref mst :: .int sto :: .ref mwd :: .ref msd :: .int sx_ :: .ref mws :: .int sun :: .ref mfr :: .ref mqu :: .ref miw :: .int sfi :: .int swa :: .long sdx :: .ref mim :: .ref mix :: .ref mmd :: []))), (mtp, .inl ((cs 2), 400, .inl gtp)), (mrd, .inl ((cs 0), 92, .inl g_42))]) [0, 1, 2] rfl
        have hD9 := hD.sub (ws' := [(m0, .inr (10, (.ref mtp :: .int sta :: .int sru :: .ref msg :: .ref mln :: .ref mcl :: .ref mcs :: .ref mrd :: .int v_39 :: .int v_40 :: .int v_41 :: .int ste :: .int sma :: .int sde :: .int sli :: .ref mop :: .int sod :: .ref mst :: .int sto :: .ref mwd :: .ref msd :: .int sx_ :: .ref mws :: .int sun :: .ref mfr :: .ref mqu :: .ref miw :: .int sfi :: .int swa :: .long sdx :: .ref mim :: .ref mix :: .ref mmd :: []))), (mtp, .inl ((cs 2), 400, .inl gtp)), (mrd, .inl ((cs 0), 92, .inl g_42))]) [0, 1, 2] (by decide) rfl
        exact W.zret (v := 0) (ty := .boolean) hx hb hr rfl (fun t9 ht9 hW9 => ⟨⟨_, 0, rfl, rfl, ⟨v_39, v_40, v_41, g_42, (Rg.wk (lo2 := 0) (hi2 := 1) (Rg.c (c := 0) (k := 0) rfl) (by decide)), (NX.tr (NX.tr rp_13 rp_26) rp_44), (fun h9 => absurd rfl h9), (fun _ => (rp_46 (hw_35.symm.trans c_48))), by rw [ht9]; exact hP9, hD9⟩⟩, hS.F ht9⟩) hS.2.2 dX12_isRowHere_43
  · have r_6 : Rg 1 2147483647 x_2 := Rg.lt_r (nle_lt c_4) (Rg.c (c := 0) (k := 0) rfl) (Rg.top x_2) (by decide)
    refine lv_aload_n hx hb dX12_isRowHere_9 rfl (lv_at hl 0 rfl) ?_
    refine lv_iconst (v := 4) hx hb dX12_isRowHere_10 (by decide) ?_
    refine lv_iload_n hx hb dX12_isRowHere_11 rfl (lv_at hl 1 rfl) ?_
    have hPc := hP.sub (ws' := [(m0, .inr (10, (.ref mtp :: .int sta :: .int sru :: .ref msg :: .ref mln :: .ref mcl :: .ref mcs :: .ref mrd :: .int snx :: .int swr :: .int snu :: .int ste :: .int sma :: .int sde :: .int sli :: .ref mop :: .int sod :: .ref mst :: .int sto :: .ref mwd :: .ref msd :: .int sx_ :: .ref mws :: .int sun :: .ref mfr :: .ref mqu :: .ref miw :: .int sfi :: .int swa :: .long sdx :: .ref mim :: .ref mix :: .ref mmd :: [])))]) [0] rfl
    have hDc := hD.sub (ws' := [(m0, .inr (10, (.ref mtp :: .int sta :: .int sru :: .ref msg :: .ref mln :: .ref mcl :: .ref mcs :: .ref mrd :: .int snx :: .int swr :: .int snu :: .int ste :: .int sma :: .int sde :: .int sli :: .ref mop :: .int sod :: .ref mst :: .int sto :: .ref mwd :: .ref msd :: .int sx_ :: .ref mws :: .int sun :: .ref mfr :: .ref mqu :: .ref miw :: .int sfi :: .int swa :: .long sdx :: .ref mim :: .ref mix :: .ref mmd :: [])))]) [0] (by decide) rfl
    have hFc := va_free (wc := [(m0, .inr (10, (.ref mtp :: .int sta :: .int sru :: .ref msg :: .ref mln :: .ref mcl :: .ref mcs :: .ref mrd :: .int snx :: .int swr :: .int snu :: .int ste :: .int sma :: .int sde :: .int sli :: .ref mop :: .int sod :: .ref mst :: .int sto :: .ref mwd :: .ref msd :: .int sx_ :: .ref mws :: .int sun :: .ref mfr :: .ref mqu :: .ref miw :: .int sfi :: .int swa :: .long sdx :: .ref mim :: .ref mix :: .ref mmd :: [])))]) hD hS hA [0] rfl
    refine va_calli (va_runV (As := [.int 4, .int b]) (rest := []) ⟨hx, hb, hml, hown, hts⟩ (c_M_fails l D cs X H.size m0 mtp sta sru msg mln mcl mcs mrd snx swr snu ste sma sde sli mop sod mst sto mwd msd sx_ mws sun mfr mqu miw sfi swa sdx mim mix mmd 4 b (Rg.wk (lo2 := 0) (hi2 := 4) (Rg.c (c := 4) (k := 4) rfl) (by decide)) r_b) ⟨callB_of 2 hts (gd_C qq_6_70) rfl rfl rfl (hT _ qq_1_9) (hT _ qq_6_67) (by decide +kernel) (rm_R rfl rfl), (hT _ qq_6_69), (hT _ qs_2_6)⟩ (pr_V hPc hK hDc hN (hR.sub (wo' := []) [] rfl) hS hFc hX hXs (ci := 10) (q0 := 0) rfl rfl) rfl rfl hl.1 rfl (lv_room (Nat.le_of_ble_eq_true rfl)) dX12_isRowHere_12 ⟨Nat.le_of_ble_eq_true rfl, Nat.le_of_ble_eq_true rfl⟩) hS (fun q _ h => hFc q h) hFc (fun x_891 u_887 t_890 H1 locs ht9 hvm hw_888 hB_889 hz1 hk1 hS => ?_)
    obtain ⟨v_892, rp_893, hP1, hD1⟩ := hB_889
    rw [ht9] at hP1
    obtain ⟨hP, hD⟩ := va_join (wr := [(mtp, .inl ((cs 2), 400, .inl gtp)), (mrd, .inl ((cs 0), 92, .inl grd))]) (w1 := [(m0, .inr (10, (.ref mtp :: .int sta :: .int sru :: .ref msg :: .ref mln :: .ref mcl :: .ref mcs :: .ref mrd :: .int snx :: .int v_892 :: .int snu :: .int ste :: .int sma :: .int sde :: .int sli :: .ref mop :: .int sod :: .ref mst :: .int sto :: .ref mwd :: .ref msd :: .int sx_ :: .ref mws :: .int sun :: .ref mfr :: .ref mqu :: .ref miw :: .int sfi :: .int swa :: .long sdx :: .ref mim :: .ref mix :: .ref mmd :: [])))]) hP hD [0] [1, 2] rfl rfl (by decide) (by decide) hk1 hFc hP1 hD1
    generalize H1 = H at hP hS ⊢
    have hP : va_P D vwCl [(mtp, .inl ((cs 2), 400, .inl gtp)), (mrd, .inl ((cs 0), 92, .inl grd)), (m0, .inr (10, (.ref mtp :: .int sta :: .int sru :: .ref msg :: .ref mln :: .ref mcl :: .ref mcs :: .ref mrd :: .int snx :: .int v_892 :: .int snu :: .int ste :: .int sma :: .int sde :: .int sli :: .ref mop :: .int sod :: .ref mst :: .int sto :: .ref mwd :: .ref msd :: .int sx_ :: .ref mws :: .int sun :: .ref mfr :: .ref mqu :: .ref miw :: .int sfi :: .int swa :: .long sdx :: .ref mim :: .ref mix :: .ref mmd :: [])))] H := hP
    have hD : va_D A [(mtp, .inl ((cs 2), 400, .inl gtp)), (mrd, .inl ((cs 0), 92, .inl grd)), (m0, .inr (10, (.ref mtp :: .int sta :: .int sru :: .ref msg :: .ref mln :: .ref mcl :: .ref mcs :: .ref mrd :: .int snx :: .int v_892 :: .int snu :: .int ste :: .int sma :: .int sde :: .int sli :: .ref mop :: .int sod :: .ref mst :: .int sto :: .ref mwd :: .ref msd :: .int sx_ :: .ref mws :: .int sun :: .ref mfr :: .ref mqu :: .ref miw :: .int sfi :: .int swa :: .long sdx :: .ref mim :: .ref mix :: .ref mmd :: [])))] := hD
    have hP := hP.sub (ws' := [(m0, .inr (10, (.ref mtp :: .int sta :: .int sru :: .ref msg :: .ref mln :: .ref mcl :: .ref mcs :: .ref mrd :: .int snx :: .int v_892 :: .int snu :: .int ste :: .int sma :: .int sde :: .int sli :: .ref mop :: .int sod :: .ref mst :: .int sto :: .ref mwd :: .ref msd :: .int sx_ :: .ref mws :: .int sun :: .ref mfr :: .ref mqu :: .ref miw :: .int sfi :: .int swa :: .long sdx :: .ref mim :: .ref mix :: .ref mmd :: []))), (mtp, .inl ((cs 2), 400, .inl gtp)), (mrd, .inl ((cs 0), 92, .inl grd))]) [2, 0, 1] rfl
    have hD := hD.sub (ws' := [(m0, .inr (10, (.ref mtp :: .int sta :: .int sru :: .ref msg :: .ref mln :: .ref mcl :: .ref mcs :: .ref mrd :: .int snx :: .int v_892 :: .int snu :: .int ste :: .int sma :: .int sde :: .int sli :: .ref mop :: .int sod :: .ref mst :: .int sto :: .ref mwd :: .ref msd :: .int sx_ :: .ref mws :: .int sun :: .ref mfr :: .ref mqu :: .ref miw :: .int sfi :: .int swa :: .long sdx :: .ref mim :: .ref mix :: .ref mmd :: []))), (mtp, .inl ((cs 2), 400, .inl gtp)), (mrd, .inl ((cs 0), 92, .inl grd))]) [2, 0, 1] (by decide) rfl
    refine W.widen (k := 0) (n := 0) (Nat.le_of_ble_eq_true rfl) (Nat.le_of_ble_eq_true rfl) ?_
    have hP9 := hP.sub (ws' := [(m0, .inr (10, (.ref mtp :: .int sta :: .int sru :: .ref msg :: .ref mln :: .ref mcl :: .ref mcs :: .ref mrd :: .int snx :: .int v_892 :: .int snu :: .int ste :: .int sma :: .int sde :: .int sli :: .ref mop :: .int sod :: .ref mst :: .int sto :: .ref mwd :: .ref msd :: .int sx_ :: .ref mws :: .int sun :: .ref mfr :: .ref mqu :: .ref miw :: .int sfi :: .int swa :: .long sdx :: .ref mim :: .ref mix :: .ref mmd :: []))), (mtp, .inl ((cs 2), 400, .inl gtp)), (mrd, .inl ((cs 0), 92, .inl grd))]) [0, 1, 2] rfl
    have hD9 := hD.sub (ws' := [(m0, .inr (10, (.ref mtp :: .int sta :: .int sru :: .ref msg :: .ref mln :: .ref mcl :: .ref mcs :: .ref mrd :: .int snx :: .int v_892 :: .int snu :: .int ste :: .int sma :: .int sde :: .int sli :: .ref mop :: .int sod :: .ref mst :: .int sto :: .ref mwd :: .ref msd :: .int sx_ :: .ref mws :: .int sun :: .ref mfr :: .ref mqu :: .ref miw :: .int sfi :: .int swa :: .long sdx :: .ref mim :: .ref mix :: .ref mmd :: []))), (mtp, .inl ((cs 2), 400, .inl gtp)), (mrd, .inl ((cs 0), 92, .inl grd))]) [0, 1, 2] (by decide) rfl
    exact W.zret (v := x_891) (ty := .boolean) hx hb hr (nar_b (Rg.wk (lo2 := 0) (hi2 := 1) hw_888 (by decide))) (fun t9 ht9 hW9 => ⟨⟨_, x_891, rfl, rfl, ⟨snx, v_892, snu, grd, (Rg.wk (lo2 := 0) (hi2 := 1) hw_888 (by decide)), (NX.rf hnx), (fun h9 => absurd (rg_0 hw_888) h9), (fun _ => rp_893), by rw [ht9]; exact hP9, hD9⟩⟩, hS.F ht9⟩) hS.2.2 dX12_isRowHere_15
