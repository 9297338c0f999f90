theorem dX12_isRound_0 : decode cX12_isRound 0 = .ok (.aload_n 0, 1) := by decide +kernel
theorem dX12_isRound_1 : decode cX12_isRound 1 = .ok (.getfield 39, 3) := by decide +kernel
theorem dX12_isRound_4 : decode cX12_isRound 4 = .ok (.bipush 92, 2) := by decide +kernel
theorem dX12_isRound_6 : decode cX12_isRound 6 = .ok (.iload_n 1, 1) := by decide +kernel
theorem dX12_isRound_7 : decode cX12_isRound 7 = .ok (.iadd, 1) := by decide +kernel
theorem dX12_isRound_8 : decode cX12_isRound 8 = .ok (.iaload, 1) := by decide +kernel
theorem dX12_isRound_9 : decode cX12_isRound 9 = .ok (.istore_n 2, 1) := by decide +kernel
theorem dX12_isRound_10 : decode cX12_isRound 10 = .ok (.iload_n 2, 1) := by decide +kernel
theorem dX12_isRound_11 : decode cX12_isRound 11 = .ok (.iload_n 1, 1) := by decide +kernel
theorem dX12_isRound_12 : decode cX12_isRound 12 = .ok (.if_icmp .le 28, 3) := by decide +kernel
theorem dX12_isRound_40 : decode cX12_isRound 40 = .ok (.iload_n 2, 1) := by decide +kernel
theorem dX12_isRound_41 : decode cX12_isRound 41 = .ok (.iload_n 1, 1) := by decide +kernel
theorem dX12_isRound_42 : decode cX12_isRound 42 = .ok (.if_icmp .ne 7, 3) := by decide +kernel
theorem dX12_isRound_49 : decode cX12_isRound 49 = .ok (.iconst 0, 1) := by decide +kernel
theorem dX12_isRound_50 : decode cX12_isRound 50 = .ok (.ireturn, 1) := by decide +kernel
theorem dX12_isRound_45 : decode cX12_isRound 45 = .ok (.iconst 1, 1) := by decide +kernel
theorem dX12_isRound_46 : decode cX12_isRound 46 = .ok (.goto 4, 3) := by decide +kernel
theorem dX12_isRound_15 : decode cX12_isRound 15 = .ok (.aload_n 0, 1) := by decide +kernel
theorem dX12_isRound_16 : decode cX12_isRound 16 = .ok (.getfield 39, 3) := by decide +kernel
theorem dX12_isRound_19 : decode cX12_isRound 19 = .ok (.bipush 92, 2) := by decide +kernel
theorem dX12_isRound_21 : decode cX12_isRound 21 = .ok (.iload_n 2, 1) := by decide +kernel
theorem dX12_isRound_22 : decode cX12_isRound 22 = .ok (.iadd, 1) := by decide +kernel
theorem dX12_isRound_23 : decode cX12_isRound 23 = .ok (.iaload, 1) := by decide +kernel
theorem dX12_isRound_24 : decode cX12_isRound 24 = .ok (.ifCond .lt 16, 3) := by decide +kernel
theorem dX12_isRound_27 : decode cX12_isRound 27 = .ok (.aload_n 0, 1) := by decide +kernel
theorem dX12_isRound_28 : decode cX12_isRound 28 = .ok (.getfield 39, 3) := by decide +kernel
theorem dX12_isRound_31 : decode cX12_isRound 31 = .ok (.bipush 92, 2) := by decide +kernel
theorem dX12_isRound_33 : decode cX12_isRound 33 = .ok (.iload_n 2, 1) := by decide +kernel
theorem dX12_isRound_34 : decode cX12_isRound 34 = .ok (.iadd, 1) := by decide +kernel
theorem dX12_isRound_35 : decode cX12_isRound 35 = .ok (.iaload, 1) := by decide +kernel
theorem dX12_isRound_36 : decode cX12_isRound 36 = .ok (.istore_n 2, 1) := by decide +kernel
theorem dX12_isRound_37 : decode cX12_isRound 37 = .ok (.goto (-27), 3) := by decide +kernel
set_option maxHeartbeats 4000000 in
set_option maxRecDepth 100000 in
theorem c_M_isRound (l : Launch) (D : va_G) (cs : Nat → ClassId) (m0 : Nat) (mtp : Nat) (sta : Int32) (sru : Int32) (msg : Nat) (mln : Nat) (mcl : Nat) (mcs : Nat) (mrd : Nat) (snx : Int32) (swr : Int32) (snu : Int32) (ste : Int32) (sma : Int32) (sde : Int32) (sli : Int32) (mop : Nat) (sod : Int32) (mst : Nat) (sto : Int32) (mwd : Nat) (msd : Nat) (sx_ : Int32) (mws : Nat) (sun : Int32) (mfr : Nat) (mqu : Nat) (miw : Nat) (sfi : Int32) (swa : Int32) (sdx : Int64) (mim : Nat) (mix : Nat) (mmd : Nat) (gsd : Nat → Int32) (b : Int32) (hsi : SI gsd) (r_b : Rg 0 9 b) : Met l yX12_isRound (Cond.code yX12_isRound cX12_isRound 3 (some .boolean) :: TB) (RM 0 0 0) (va_Pc [.ref m0, .int b] (PRR D cs [(m0, .inr (10, (.ref mtp :: .int sta :: .int sru :: .ref msg :: .ref mln :: .ref mcl :: .ref mcs :: .ref mrd :: .int snx :: .int swr :: .int snu :: .int ste :: .int sma :: .int sde :: .int sli :: .ref mop :: .int sod :: .ref mst :: .int sto :: .ref mwd :: .ref msd :: .int sx_ :: .ref mws :: .int sun :: .ref mfr :: .ref mqu :: .ref miw :: .int sfi :: .int swa :: .long sdx :: .ref mim :: .ref mix :: .ref mmd :: []))), (msd, .inl ((cs 0), 133, .inl gsd))])) (QP (fun v => ∃ x : Int32, v = .int x ∧ Rg 0 1 x)) 0 0 (fun _ => False) := by
  refine MER (y := yX12_isRound) (cc := cX12_isRound) (maxL := 3) (ret := (some .boolean)) (d := 0) (D := D) (cs := cs) (ws := [(m0, .inr (10, (.ref mtp :: .int sta :: .int sru :: .ref msg :: .ref mln :: .ref mcl :: .ref mcs :: .ref mrd :: .int snx :: .int swr :: .int snu :: .int ste :: .int sma :: .int sde :: .int sli :: .ref mop :: .int sod :: .ref mst :: .int sto :: .ref mwd :: .ref msd :: .int sx_ :: .ref mws :: .int sun :: .ref mfr :: .ref mqu :: .ref miw :: .int sfi :: .int swa :: .long sdx :: .ref mim :: .ref mix :: .ref mmd :: []))), (msd, .inl ((cs 0), 133, .inl gsd))]) (av := [.ref m0, .int b]) (Qc := QP (fun v => ∃ x : Int32, v = .int x ∧ Rg 0 1 x)) (by decide) (Nat.le_of_ble_eq_true rfl) ?_
  intro p e s m below meth c ls H hHe hx hb hr hml hown hts hlocks hP hK hN hl
  obtain ⟨locs, hlc⟩ : ∃ z : List Loc, z = [] := ⟨_, rfl⟩
  rw [← hlc]
  have hown : s.vm.findClass "WrongHoleModel" = some m.cls := hown
  have hT : ∀ w ∈ TB, w.before ([.ref m0, .int b] : List Value).toArray s = true := fun w h => hts w (List.mem_cons_of_mem _ h)
  have hl : lv_has ls 3 [(0, .ref m0), (1, .int b)] := hl
  have hP : va_P D vwCl [(m0, .inr (10, (.ref mtp :: .int sta :: .int sru :: .ref msg :: .ref mln :: .ref mcl :: .ref mcs :: .ref mrd :: .int snx :: .int swr :: .int snu :: .int ste :: .int sma :: .int sde :: .int sli :: .ref mop :: .int sod :: .ref mst :: .int sto :: .ref mwd :: .ref msd :: .int sx_ :: .ref mws :: .int sun :: .ref mfr :: .ref mqu :: .ref miw :: .int sfi :: .int swa :: .long sdx :: .ref mim :: .ref mix :: .ref mmd :: []))), (msd, .inl ((cs 0), 133, .inl gsd))] H := hP
  refine lv_aload_n hx hb dX12_isRound_0 rfl (lv_at hl 0 rfl) ?_
  refine va_get (D := D) (ci := 10) (v := .ref msd) (C := "WrongHoleModel") (T := TX12) (N := 33) hx hb hts (iq_RX12 _) hown hK hP 0 rfl rfl 20 (by decide) (hT _ qq_5_172) (fun _ h9 => h9) rfl dX12_isRound_1 ?_
  refine lv_bipush (v := 92) hx hb dX12_isRound_4 (by decide) ?_
  refine lv_iload_n hx hb dX12_isRound_6 rfl (lv_at hl 1 rfl) ?_
  refine lv_iadd hx hb dX12_isRound_7 ?_
  refine lv_topi (fun x_1 e_2 => ?_)
  have r_3 : Rg 92 101 x_1 := Rg.add e_2 (Rg.c (c := 92) (k := 92) rfl) r_b (by decide)
  have hi_4 : vp_in x_1 133 := Rg.in r_3 (by decide)
  refine va_iald hx hb hK hP 1 0 rfl rfl hi_4 dX12_isRound_8 ?_
  refine lv_topi (fun x_5 e_6 => ?_)
  have r_7 : Rg (-1) 9 x_5 := Rg.of e_6 (hsi.ls r_3 (by decide))
  refine lv_istore_n (lv' := [(2, .int x_5), (0, .ref m0), (1, .int b)]) hx hb dX12_isRound_9 rfl hl (by decide) rfl (fun ls hl => ?_)
  refine w_wh (σ := (Int32)) (fun (v_43 : Int32) H locs ls => Rg (-1) 9 v_43 ∧ (rds gsd b 11 v_43 ≤ 10) ∧ H = s.heap ∧ locs = [] ∧ va_P D vwCl [(m0, .inr (10, (.ref mtp :: .int sta :: .int sru :: .ref msg :: .ref mln :: .ref mcl :: .ref mcs :: .ref mrd :: .int snx :: .int swr :: .int snu :: .int ste :: .int sma :: .int sde :: .int sli :: .ref mop :: .int sod :: .ref mst :: .int sto :: .ref mwd :: .ref msd :: .int sx_ :: .ref mws :: .int sun :: .ref mfr :: .ref mqu :: .ref miw :: .int sfi :: .int swa :: .long sdx :: .ref mim :: .ref mix :: .ref mmd :: []))), (msd, .inl ((cs 0), 133, .inl gsd))] H ∧ lv_has ls 3 [(2, .int v_43), (0, .ref m0), (1, .int b)]) (fun (v_43 : Int32) => rds gsd b 11 v_43) 10 ?_ x_5 H locs ls ⟨r_7, (rds_0 hsi r_b (show x_5 = gsd (92 + cN b) from by rw [e_6, show Int32.toNatClampNeg x_1 = _ from (ix_add (k := 92) e_2 r_b (by decide) ⟨by decide, rfl⟩)])), hHe, hlc, hP, lv_sub hl [0, 1, 2] rfl⟩
  rintro v_43 H locs ls ⟨r_185, iv_186, hHe, hlc, hP, hl⟩ ih_184
  refine lv_iload_n hx hb dX12_isRound_10 rfl (lv_at hl 0 rfl) ?_
  refine lv_iload_n hx hb dX12_isRound_11 rfl (lv_at hl 2 rfl) ?_
  refine w_cut (σ := Unit) (fun _ H locs ls => H = s.heap ∧ locs = [] ∧ va_P D vwCl [(m0, .inr (10, (.ref mtp :: .int sta :: .int sru :: .ref msg :: .ref mln :: .ref mcl :: .ref mcs :: .ref mrd :: .int snx :: .int swr :: .int snu :: .int ste :: .int sma :: .int sde :: .int sli :: .ref mop :: .int sod :: .ref mst :: .int sto :: .ref mwd :: .ref msd :: .int sx_ :: .ref mws :: .int sun :: .ref mfr :: .ref mqu :: .ref miw :: .int sfi :: .int swa :: .long sdx :: .ref mim :: .ref mix :: .ref mmd :: []))), (msd, .inl ((cs 0), 133, .inl gsd))] H ∧ lv_has ls 3 [(2, .int v_43), (0, .ref m0), (1, .int b)]) 40 (fun _ => []) ?_ (fun hj_205 => ?_)
  · rintro _ H locs ls ⟨hHe, hlc, hP, hl⟩
    refine lv_iload_n hx hb dX12_isRound_40 rfl (lv_at hl 0 rfl) ?_
    refine lv_iload_n hx hb dX12_isRound_41 rfl (lv_at hl 2 rfl) ?_
    refine lv_icmp_ne (tgt := 49) hx hb dX12_isRound_42 (by decide) (fun c_206 => ?_) (fun c_206 => ?_)
    · refine lv_iconst (v := 0) hx hb dX12_isRound_49 (by decide) ?_
      exact W.zret (v := 0) (ty := .boolean) hx hb hr rfl (fun t9 ht9 hW9 => ⟨⟨_, rfl, _, rfl, (Rg.wk (lo2 := 0) (hi2 := 1) (Rg.c (c := 0) (k := 0) rfl) (by decide))⟩, ht9.trans hHe⟩) (fun _ h9 => by rw [hlc] at h9; exact absurd h9 List.not_mem_nil) dX12_isRound_50
    · have r_207 : Rg 0 9 v_43 := Rg.eq_l c_206 r_185 r_b (by decide)
      refine lv_iconst (v := 1) hx hb dX12_isRound_45 (by decide) ?_
      refine lv_goto (tgt := 50) hx hb dX12_isRound_46 (by decide) ?_
      exact W.zret (v := 1) (ty := .boolean) hx hb hr rfl (fun t9 ht9 hW9 => ⟨⟨_, rfl, _, rfl, (Rg.wk (lo2 := 0) (hi2 := 1) (Rg.c (c := 1) (k := 1) rfl) (by decide))⟩, ht9.trans hHe⟩) (fun _ h9 => by rw [hlc] at h9; exact absurd h9 List.not_mem_nil) dX12_isRound_50
  · refine lv_icmp_le (tgt := 40) hx hb dX12_isRound_12 (by decide) (fun c_187 => ?_) (fun c_187 => ?_)
    · exact hj_205 () _ _ _ ⟨hHe, hlc, hP, lv_sub hl [0, 1, 2] rfl⟩
    · have r_188 : Rg 0 8 b := Rg.lt_l (nle_lt c_187) r_b r_185 (by decide)
      have r_189 : Rg 1 9 v_43 := Rg.lt_r (nle_lt c_187) r_b r_185 (by decide)
      refine lv_aload_n hx hb dX12_isRound_15 rfl (lv_at hl 1 rfl) ?_
      refine va_get (D := D) (ci := 10) (v := .ref msd) (C := "WrongHoleModel") (T := TX12) (N := 33) hx hb hts (iq_RX12 _) hown hK hP 0 rfl rfl 20 (by decide) (hT _ qq_5_172) (fun _ h9 => h9) rfl dX12_isRound_16 ?_
      refine lv_bipush (v := 92) hx hb dX12_isRound_19 (by decide) ?_
      refine lv_iload_n hx hb dX12_isRound_21 rfl (lv_at hl 0 rfl) ?_
      refine lv_iadd hx hb dX12_isRound_22 ?_
      refine lv_topi (fun x_208 e_209 => ?_)
      have r_210 : Rg 93 101 x_208 := Rg.add e_209 (Rg.c (c := 92) (k := 92) rfl) r_189 (by decide)
      have hi_211 : vp_in x_208 133 := Rg.in r_210 (by decide)
      refine va_iald hx hb hK hP 1 0 rfl rfl hi_211 dX12_isRound_23 ?_
      refine lv_topi (fun x_212 e_213 => ?_)
      have r_214 : Rg (-1) 9 x_212 := Rg.of e_213 (hsi.ls r_210 (by decide))
      refine lv_if_lt (tgt := 40) hx hb dX12_isRound_24 (by decide) (fun c_215 => ?_) (fun c_215 => ?_)
      · have r_216 : Rg (-1) (-1) x_212 := Rg.lt_l c_215 r_214 (Rg.c (c := 0) (k := 0) rfl) (by decide)
        exact hj_205 () _ _ _ ⟨hHe, hlc, hP, lv_sub hl [0, 1, 2] rfl⟩
      · have r_217 : Rg 0 9 x_212 := Rg.le_r (nlt_le c_215) (Rg.c (c := 0) (k := 0) rfl) r_214 (by decide)
        refine lv_aload_n hx hb dX12_isRound_27 rfl (lv_at hl 1 rfl) ?_
        refine va_get (D := D) (ci := 10) (v := .ref msd) (C := "WrongHoleModel") (T := TX12) (N := 33) hx hb hts (iq_RX12 _) hown hK hP 0 rfl rfl 20 (by decide) (hT _ qq_5_172) (fun _ h9 => h9) rfl dX12_isRound_28 ?_
        refine lv_bipush (v := 92) hx hb dX12_isRound_31 (by decide) ?_
        refine lv_iload_n hx hb dX12_isRound_33 rfl (lv_at hl 0 rfl) ?_
        refine lv_iadd hx hb dX12_isRound_34 ?_
        refine lv_topi (fun x_218 e_219 => ?_)
        have r_220 : Rg 93 101 x_218 := Rg.add e_219 (Rg.c (c := 92) (k := 92) rfl) r_189 (by decide)
        have hi_221 : vp_in x_218 133 := Rg.in r_220 (by decide)
        refine va_iald hx hb hK hP 1 0 rfl rfl hi_221 dX12_isRound_35 ?_
        refine lv_topi (fun x_222 e_223 => ?_)
        have r_224 : Rg (-1) 9 x_222 := Rg.of e_223 (hsi.ls r_220 (by decide))
        refine lv_istore_n (lv' := [(2, .int x_222), (0, .ref m0), (1, .int b)]) hx hb dX12_isRound_36 rfl hl (by decide) rfl (fun ls hl => ?_)
        refine lv_goto (tgt := 10) hx hb dX12_isRound_37 (by decide) ?_
        exact ih_184 x_222 _ _ _ ⟨r_224, (rds_nx iv_186 c_187 (by rw [← (show x_212 = gsd (92 + cN v_43) from by rw [e_213, show Int32.toNatClampNeg x_208 = _ from (ix_add (k := 92) e_209 r_189 (by decide) ⟨by decide, rfl⟩)])]; exact c_215) (show x_222 = gsd (92 + cN v_43) from by rw [e_223, show Int32.toNatClampNeg x_218 = _ from (ix_add (k := 92) e_219 r_189 (by decide) ⟨by decide, rfl⟩)])).1, hHe, hlc, hP, lv_sub hl [0, 1, 2] rfl⟩ ((rds_nx iv_186 c_187 (by rw [← (show x_212 = gsd (92 + cN v_43) from by rw [e_213, show Int32.toNatClampNeg x_208 = _ from (ix_add (k := 92) e_209 r_189 (by decide) ⟨by decide, rfl⟩)])]; exact c_215) (show x_222 = gsd (92 + cN v_43) from by rw [e_223, show Int32.toNatClampNeg x_218 = _ from (ix_add (k := 92) e_219 r_189 (by decide) ⟨by decide, rfl⟩)])).2)
theorem dX12_moves_0 : decode cX12_moves 0 = .ok (.iload_n 1, 1) := by decide +kernel
theorem dX12_moves_1 : decode cX12_moves 1 = .ok (.i2l, 1) := by decide +kernel
theorem dX12_moves_2 : decode cX12_moves 2 = .ok (.lconst 1, 1) := by decide +kernel
theorem dX12_moves_3 : decode cX12_moves 3 = .ok (.ldc2_w 508, 3) := by decide +kernel
theorem qq_8_69 : Cond.constantLong "WrongHoleModel" 508 10 ∈ TB := mk_tb (ti_8 (List.mem_of_getElem? (i := 69) rfl)) rfl
theorem dX12_moves_6 : decode cX12_moves 6 = .ok (.invokestatic 104, 3) := by decide +kernel
theorem dX12_moves_9 : decode cX12_moves 9 = .ok (.ifCond .ne 5, 3) := by decide +kernel
theorem dX12_moves_14 : decode cX12_moves 14 = .ok (.iconst 0, 1) := by decide +kernel
theorem dX12_moves_15 : decode cX12_moves 15 = .ok (.istore_n 2, 1) := by decide +kernel
theorem dX12_moves_16 : decode cX12_moves 16 = .ok (.iconst 0, 1) := by decide +kernel
theorem dX12_moves_17 : decode cX12_moves 17 = .ok (.istore_n 3, 1) := by decide +kernel
theorem dX12_moves_18 : decode cX12_moves 18 = .ok (.iconst 0, 1) := by decide +kernel
theorem dX12_moves_19 : decode cX12_moves 19 = .ok (.istore 4, 2) := by decide +kernel
theorem dX12_moves_21 : decode cX12_moves 21 = .ok (.iconst 0, 1) := by decide +kernel
theorem dX12_moves_22 : decode cX12_moves 22 = .ok (.istore 5, 2) := by decide +kernel
theorem dX12_moves_24 : decode cX12_moves 24 = .ok (.iload 5, 2) := by decide +kernel
theorem dX12_moves_26 : decode cX12_moves 26 = .ok (.iload_n 1, 1) := by decide +kernel
theorem dX12_moves_27 : decode cX12_moves 27 = .ok (.if_icmp .ge 79, 3) := by decide +kernel
theorem dX12_moves_106 : decode cX12_moves 106 = .ok (.iload_n 2, 1) := by decide +kernel
theorem dX12_moves_107 : decode cX12_moves 107 = .ok (.ifCond .ne 7, 3) := by decide +kernel
theorem dX12_moves_114 : decode cX12_moves 114 = .ok (.iload_n 3, 1) := by decide +kernel
theorem dX12_moves_115 : decode cX12_moves 115 = .ok (.ifCond .ne 8, 3) := by decide +kernel
theorem dX12_moves_123 : decode cX12_moves 123 = .ok (.iload_n 2, 1) := by decide +kernel
theorem dX12_moves_124 : decode cX12_moves 124 = .ok (.iload 4, 2) := by decide +kernel
theorem dX12_moves_126 : decode cX12_moves 126 = .ok (.iadd, 1) := by decide +kernel
theorem dX12_moves_127 : decode cX12_moves 127 = .ok (.ireturn, 1) := by decide +kernel
theorem dX12_moves_118 : decode cX12_moves 118 = .ok (.bipush (-2), 2) := by decide +kernel
theorem dX12_moves_120 : decode cX12_moves 120 = .ok (.goto 7, 3) := by decide +kernel
theorem dX12_moves_110 : decode cX12_moves 110 = .ok (.iconst 0, 1) := by decide +kernel
theorem dX12_moves_111 : decode cX12_moves 111 = .ok (.goto 16, 3) := by decide +kernel
theorem dX12_moves_30 : decode cX12_moves 30 = .ok (.aload_n 0, 1) := by decide +kernel
theorem dX12_moves_31 : decode cX12_moves 31 = .ok (.getfield 39, 3) := by decide +kernel
theorem dX12_moves_34 : decode cX12_moves 34 = .ok (.bipush 92, 2) := by decide +kernel
theorem dX12_moves_36 : decode cX12_moves 36 = .ok (.iload 5, 2) := by decide +kernel
theorem dX12_moves_38 : decode cX12_moves 38 = .ok (.iadd, 1) := by decide +kernel
theorem dX12_moves_39 : decode cX12_moves 39 = .ok (.iaload, 1) := by decide +kernel
theorem dX12_moves_40 : decode cX12_moves 40 = .ok (.istore 6, 2) := by decide +kernel
theorem dX12_moves_42 : decode cX12_moves 42 = .ok (.iload 6, 2) := by decide +kernel
theorem dX12_moves_44 : decode cX12_moves 44 = .ok (.iload_n 1, 1) := by decide +kernel
theorem dX12_moves_45 : decode cX12_moves 45 = .ok (.if_icmp .lt 5, 3) := by decide +kernel
theorem dX12_moves_50 : decode cX12_moves 50 = .ok (.iload_n 3, 1) := by decide +kernel
theorem dX12_moves_51 : decode cX12_moves 51 = .ok (.iload 6, 2) := by decide +kernel
theorem dX12_moves_53 : decode cX12_moves 53 = .ok (.ifCond .ge 7, 3) := by decide +kernel
theorem dX12_moves_61 : decode cX12_moves 61 = .ok (.iadd, 1) := by decide +kernel
theorem dX12_moves_62 : decode cX12_moves 62 = .ok (.istore_n 3, 1) := by decide +kernel
theorem dX12_moves_63 : decode cX12_moves 63 = .ok (.iload 6, 2) := by decide +kernel
theorem dX12_moves_65 : decode cX12_moves 65 = .ok (.ifCond .lt 35, 3) := by decide +kernel
theorem dX12_moves_100 : decode cX12_moves 100 = .ok (.iinc 5 1, 3) := by decide +kernel
theorem dX12_moves_103 : decode cX12_moves 103 = .ok (.goto (-79), 3) := by decide +kernel
theorem dX12_moves_68 : decode cX12_moves 68 = .ok (.iload 6, 2) := by decide +kernel
theorem dX12_moves_70 : decode cX12_moves 70 = .ok (.iload 5, 2) := by decide +kernel
theorem dX12_moves_72 : decode cX12_moves 72 = .ok (.if_icmp .ne 6, 3) := by decide +kernel
theorem dX12_moves_78 : decode cX12_moves 78 = .ok (.iinc 2 1, 3) := by decide +kernel
theorem dX12_moves_81 : decode cX12_moves 81 = .ok (.iload 4, 2) := by decide +kernel
theorem dX12_moves_83 : decode cX12_moves 83 = .ok (.aload_n 0, 1) := by decide +kernel
theorem dX12_moves_84 : decode cX12_moves 84 = .ok (.iload 5, 2) := by decide +kernel
theorem dX12_moves_86 : decode cX12_moves 86 = .ok (.invokevirtual 510, 3) := by decide +kernel
theorem qq_8_73 : Cond.code yX12_isRound cX12_isRound 3 (some .boolean) ∈ TB := mk_tb (ti_8 (List.mem_of_getElem? (i := 73) rfl)) rfl
theorem qq_8_70 : Cond.methodLink "WrongHoleModel" 510 yX12_isRound ∈ TB := mk_tb (ti_8 (List.mem_of_getElem? (i := 70) rfl)) rfl
theorem qq_8_72 : Cond.instanceMethod yX12_isRound ∈ TB := mk_tb (ti_8 (List.mem_of_getElem? (i := 72) rfl)) rfl
theorem qs_7_8 : Cond.selects "WrongHoleModel" yX12_isRound yX12_isRound ∈ TB := mk_tb (ti_s (q := (yX12_isRound, 33)) (List.mem_append_right _ (List.mem_append_right _ (List.mem_append_right _ (List.mem_append_right _ (List.mem_append_right _ (List.mem_append_right _ (List.mem_append_right _ (List.mem_of_getElem? (i := 8) rfl))))))))) rfl
theorem dX12_moves_89 : decode cX12_moves 89 = .ok (.ifCond .eq 7, 3) := by decide +kernel
theorem dX12_moves_97 : decode cX12_moves 97 = .ok (.iadd, 1) := by decide +kernel
theorem dX12_moves_98 : decode cX12_moves 98 = .ok (.istore 4, 2) := by decide +kernel
theorem dX12_moves_96 : decode cX12_moves 96 = .ok (.iconst 0, 1) := by decide +kernel
theorem dX12_moves_92 : decode cX12_moves 92 = .ok (.iconst 1, 1) := by decide +kernel
theorem dX12_moves_93 : decode cX12_moves 93 = .ok (.goto 4, 3) := by decide +kernel
theorem dX12_moves_75 : decode cX12_moves 75 = .ok (.goto 25, 3) := by decide +kernel
theorem dX12_moves_60 : decode cX12_moves 60 = .ok (.iconst 0, 1) := by decide +kernel
theorem dX12_moves_56 : decode cX12_moves 56 = .ok (.iconst 1, 1) := by decide +kernel
theorem dX12_moves_57 : decode cX12_moves 57 = .ok (.goto 4, 3) := by decide +kernel
theorem dX12_moves_48 : decode cX12_moves 48 = .ok (.iconst (-1), 1) := by decide +kernel
theorem dX12_moves_49 : decode cX12_moves 49 = .ok (.ireturn, 1) := by decide +kernel
theorem dX12_moves_12 : decode cX12_moves 12 = .ok (.iconst (-1), 1) := by decide +kernel
theorem dX12_moves_13 : decode cX12_moves 13 = .ok (.ireturn, 1) := by decide +kernel
set_option maxHeartbeats 4000000 in
set_option maxRecDepth 100000 in
theorem c_M_moves (l : Launch) (D : va_G) (cs : Nat → ClassId) (m0 : Nat) (mtp : Nat) (sta : Int32) (sru : Int32) (msg : Nat) (mln : Nat) (mcl : Nat) (mcs : Nat) (mrd : Nat) (snx : Int32) (swr : Int32) (snu : Int32) (ste : Int32) (sma : Int32) (sde : Int32) (sli : Int32) (mop : Nat) (sod : Int32) (mst : Nat) (sto : Int32) (mwd : Nat) (msd : Nat) (sx_ : Int32) (mws : Nat) (sun : Int32) (mfr : Nat) (mqu : Nat) (miw : Nat) (sfi : Int32) (swa : Int32) (sdx : Int64) (mim : Nat) (mix : Nat) (mmd : Nat) (gsd : Nat → Int32) (a : Int32) (hsi : SI gsd) : Met l yX12_moves (Cond.code yX12_moves cX12_moves 7 (some .int) :: TB) (RM 1 0 0) (va_Pc [.ref m0, .int a] (PRR D cs [(m0, .inr (10, (.ref mtp :: .int sta :: .int sru :: .ref msg :: .ref mln :: .ref mcl :: .ref mcs :: .ref mrd :: .int snx :: .int swr :: .int snu :: .int ste :: .int sma :: .int sde :: .int sli :: .ref mop :: .int sod :: .ref mst :: .int sto :: .ref mwd :: .ref msd :: .int sx_ :: .ref mws :: .int sun :: .ref mfr :: .ref mqu :: .ref miw :: .int sfi :: .int swa :: .long sdx :: .ref mim :: .ref mix :: .ref mmd :: []))), (msd, .inl ((cs 0), 133, .inl gsd))])) (QP (fun v => ∃ x : Int32, v = .int x)) 0 0 (fun _ => False) := by
  refine MER (y := yX12_moves) (cc := cX12_moves) (maxL := 7) (ret := (some .int)) (d := 1) (D := D) (cs := cs) (ws := [(m0, .inr (10, (.ref mtp :: .int sta :: .int sru :: .ref msg :: .ref mln :: .ref mcl :: .ref mcs :: .ref mrd :: .int snx :: .int swr :: .int snu :: .int ste :: .int sma :: .int sde :: .int sli :: .ref mop :: .int sod :: .ref mst :: .int sto :: .ref mwd :: .ref msd :: .int sx_ :: .ref mws :: .int sun :: .ref mfr :: .ref mqu :: .ref miw :: .int sfi :: .int swa :: .long sdx :: .ref mim :: .ref mix :: .ref mmd :: []))), (msd, .inl ((cs 0), 133, .inl gsd))]) (av := [.ref m0, .int a]) (Qc := QP (fun v => ∃ x : Int32, v = .int x)) (by decide) (Nat.le_of_ble_eq_true rfl) ?_
  intro p e s m below meth c ls H hHe hx hb hr hml hown hts hlocks hP hK hN hl
  obtain ⟨locs, hlc⟩ : ∃ z : List Loc, z = [] := ⟨_, rfl⟩
  rw [← hlc]
  have hown : s.vm.findClass "WrongHoleModel" = some m.cls := hown
  have hT : ∀ w ∈ TB, w.before ([.ref m0, .int a] : List Value).toArray s = true := fun w h => hts w (List.mem_cons_of_mem _ h)
  have hl : lv_has ls 7 [(0, .ref m0), (1, .int a)] := hl
  have hP : va_P D vwCl [(m0, .inr (10, (.ref mtp :: .int sta :: .int sru :: .ref msg :: .ref mln :: .ref mcl :: .ref mcs :: .ref mrd :: .int snx :: .int swr :: .int snu :: .int ste :: .int sma :: .int sde :: .int sli :: .ref mop :: .int sod :: .ref mst :: .int sto :: .ref mwd :: .ref msd :: .int sx_ :: .ref mws :: .int sun :: .ref mfr :: .ref mqu :: .ref miw :: .int sfi :: .int swa :: .long sdx :: .ref mim :: .ref mix :: .ref mmd :: []))), (msd, .inl ((cs 0), 133, .inl gsd))] H := hP
  refine lv_iload_n hx hb dX12_moves_0 rfl (lv_at hl 1 rfl) ?_
  refine lv_i2l (v := Int32.toInt64 a) hx hb dX12_moves_1 rfl ?_
  refine lv_topl (fun x_1 e_2 => ?_)
  refine lv_lconst (v := 1) hx hb dX12_moves_2 (by decide) ?_
  refine lv_ldc2 (v := 10) hx hb hown (hT _ qq_8_69) dX12_moves_3 ?_
  have hPc := va_P.sub (ws' := []) hP [] rfl
  refine cl_P (W.runS (As := [.long x_1, .long 1, .long 10]) (rest := []) ⟨hx, hb, hml, hown, hts⟩ (c_M_in l D cs x_1 1 10) ⟨callB_of 3 hts (gd_C qq_6_97) rfl rfl rfl (hT _ qq_1_9) (hT _ qq_6_95) (by decide +kernel) (rm_R rfl rfl), (hT _ qq_6_96)⟩ (pq_S hPc hK hN) rfl rfl hl.1 rfl (lv_room (Nat.le_of_ble_eq_true rfl)) dX12_moves_6 ⟨Nat.le_of_ble_eq_true rfl, Nat.le_of_ble_eq_true rfl⟩) (fun v9 hz_4 => ?_)
  obtain ⟨x_3, rfl, r_5⟩ := hz_4
  refine lv_if_ne (tgt := 14) hx hb dX12_moves_9 (by decide) (fun c_6 => ?_) (fun c_6 => ?_)
  · have r_7 : Rg 1 1 x_3 := Rg.ne c_6 r_5.1 (Rg.c (c := 0) (k := 0) rfl) (by decide)
    have r_8 : Rg 1 10 a := in_rg e_2 (r_5.2 c_6) (by decide) (by decide)
    refine lv_iconst (v := 0) hx hb dX12_moves_14 (by decide) ?_
    refine lv_istore_n (lv' := [(2, .int 0), (0, .ref m0), (1, .int a)]) hx hb dX12_moves_15 rfl hl (by decide) rfl (fun ls hl => ?_)
    refine lv_iconst (v := 0) hx hb dX12_moves_16 (by decide) ?_
    refine lv_istore_n (lv' := [(3, .int 0), (2, .int 0), (0, .ref m0), (1, .int a)]) hx hb dX12_moves_17 rfl hl (by decide) rfl (fun ls hl => ?_)
    refine lv_iconst (v := 0) hx hb dX12_moves_18 (by decide) ?_
    refine lv_istore (lv' := [(4, .int 0), (3, .int 0), (2, .int 0), (0, .ref m0), (1, .int a)]) hx hb dX12_moves_19 hl (by decide) rfl (fun ls hl => ?_)
    refine lv_iconst (v := 0) hx hb dX12_moves_21 (by decide) ?_
    refine lv_istore (lv' := [(5, .int 0), (4, .int 0), (3, .int 0), (2, .int 0), (0, .ref m0), (1, .int a)]) hx hb dX12_moves_22 hl (by decide) rfl (fun ls hl => ?_)
    refine w_wh (σ := (Int32) × (Int32) × (Int32) × (Int32)) (fun x9 H locs ls => match x9 with | (v_54, v_55, v_56, v_57) => Rg 0 10 v_54 ∧ H = s.heap ∧ locs = [] ∧ va_P D vwCl [(m0, .inr (10, (.ref mtp :: .int sta :: .int sru :: .ref msg :: .ref mln :: .ref mcl :: .ref mcs :: .ref mrd :: .int snx :: .int swr :: .int snu :: .int ste :: .int sma :: .int sde :: .int sli :: .ref mop :: .int sod :: .ref mst :: .int sto :: .ref mwd :: .ref msd :: .int sx_ :: .ref mws :: .int sun :: .ref mfr :: .ref mqu :: .ref miw :: .int sfi :: .int swa :: .long sdx :: .ref mim :: .ref mix :: .ref mmd :: []))), (msd, .inl ((cs 0), 133, .inl gsd))] H ∧ lv_has ls 7 [(5, .int v_54), (4, .int v_55), (3, .int v_56), (2, .int v_57), (0, .ref m0), (1, .int a)]) (fun x9 => match x9 with | (v_54, v_55, v_56, v_57) => (10 - Int32.toInt v_54).toNat) 24 ?_ (0, 0, 0, 0) H locs ls ⟨(Rg.wk (lo2 := 0) (hi2 := 10) (Rg.c (c := 0) (k := 0) rfl) (by decide)), hHe, hlc, hP, lv_sub hl [0, 1, 2, 3, 4, 5] rfl⟩
    rintro ⟨v_54, v_55, v_56, v_57⟩ H locs ls ⟨r_865, hHe, hlc, hP, hl⟩ ih_864
    refine lv_iload hx hb dX12_moves_24 (lv_at hl 0 rfl) ?_
    refine lv_iload_n hx hb dX12_moves_26 rfl (lv_at hl 5 rfl) ?_
    refine lv_icmp_ge (tgt := 106) hx hb dX12_moves_27 (by decide) (fun c_866 => ?_) (fun c_866 => ?_)
    · have r_867 : Rg 1 10 v_54 := Rg.le_r c_866 r_8 r_865 (by decide)
      refine lv_iload_n hx hb dX12_moves_106 rfl (lv_at hl 3 rfl) ?_
      refine lv_if_ne (tgt := 114) hx hb dX12_moves_107 (by decide) (fun c_869 => ?_) (fun c_869 => ?_)
      · refine lv_iload_n hx hb dX12_moves_114 rfl (lv_at hl 2 rfl) ?_
        refine lv_if_ne (tgt := 123) hx hb dX12_moves_115 (by decide) (fun c_875 => ?_) (fun c_875 => ?_)
        · refine lv_iload_n hx hb dX12_moves_123 rfl (lv_at hl 3 rfl) ?_
          refine lv_iload hx hb dX12_moves_124 (lv_at hl 1 rfl) ?_
          refine lv_iadd hx hb dX12_moves_126 ?_
          refine lv_topi (fun x_879 e_880 => ?_)
          exact W.iret (v := x_879) hx hb hr (fun t9 ht9 hW9 => ⟨⟨_, rfl, _, rfl⟩, ht9.trans hHe⟩) (fun _ h9 => by rw [hlc] at h9; exact absurd h9 List.not_mem_nil) dX12_moves_127
        · have r_876 : Rg 0 0 v_56 := Rg.eq_l c_875 (Rg.top v_56) (Rg.c (c := 0) (k := 0) rfl) (by decide)
          refine lv_bipush (v := (-2)) hx hb dX12_moves_118 (by decide) ?_
          refine lv_goto (tgt := 127) hx hb dX12_moves_120 (by decide) ?_
          exact W.iret (v := (-2)) hx hb hr (fun t9 ht9 hW9 => ⟨⟨_, rfl, _, rfl⟩, ht9.trans hHe⟩) (fun _ h9 => by rw [hlc] at h9; exact absurd h9 List.not_mem_nil) dX12_moves_127
      · have r_870 : Rg 0 0 v_57 := Rg.eq_l c_869 (Rg.top v_57) (Rg.c (c := 0) (k := 0) rfl) (by decide)
        refine lv_iconst (v := 0) hx hb dX12_moves_110 (by decide) ?_
        refine lv_goto (tgt := 127) hx hb dX12_moves_111 (by decide) ?_
        exact W.iret (v := 0) hx hb hr (fun t9 ht9 hW9 => ⟨⟨_, rfl, _, rfl⟩, ht9.trans hHe⟩) (fun _ h9 => by rw [hlc] at h9; exact absurd h9 List.not_mem_nil) dX12_moves_127
    · have r_868 : Rg 0 9 v_54 := Rg.lt_l (nle_lt c_866) r_865 r_8 (by decide)
      refine lv_aload_n hx hb dX12_moves_30 rfl (lv_at hl 4 rfl) ?_
      refine va_get (D := D) (ci := 10) (v := .ref msd) (C := "WrongHoleModel") (T := TX12) (N := 33) hx hb hts (iq_RX12 _) hown hK hP 0 rfl rfl 20 (by decide) (hT _ qq_5_172) (fun _ h9 => h9) rfl dX12_moves_31 ?_
      refine lv_bipush (v := 92) hx hb dX12_moves_34 (by decide) ?_
      refine lv_iload hx hb dX12_moves_36 (lv_at hl 0 rfl) ?_
      refine lv_iadd hx hb dX12_moves_38 ?_
      refine lv_topi (fun x_881 e_882 => ?_)
      have r_883 : Rg 92 101 x_881 := Rg.add e_882 (Rg.c (c := 92) (k := 92) rfl) r_868 (by decide)
      have hi_884 : vp_in x_881 133 := Rg.in r_883 (by decide)
      refine va_iald hx hb hK hP 1 0 rfl rfl hi_884 dX12_moves_39 ?_
      refine lv_topi (fun x_885 e_886 => ?_)
      have r_887 : Rg (-1) 9 x_885 := Rg.of e_886 (hsi.ls r_883 (by decide))
      refine lv_istore (lv' := [(6, .int x_885), (5, .int v_54), (4, .int v_55), (3, .int v_56), (2, .int v_57), (0, .ref m0), (1, .int a)]) hx hb dX12_moves_40 hl (by decide) rfl (fun ls hl => ?_)
      refine lv_iload hx hb dX12_moves_42 (lv_at hl 0 rfl) ?_
      refine lv_iload_n hx hb dX12_moves_44 rfl (lv_at hl 6 rfl) ?_
      refine lv_icmp_lt (tgt := 50) hx hb dX12_moves_45 (by decide) (fun c_888 => ?_) (fun c_888 => ?_)
      · refine lv_iload_n hx hb dX12_moves_50 rfl (lv_at hl 3 rfl) ?_
        refine lv_iload hx hb dX12_moves_51 (lv_at hl 0 rfl) ?_
        refine w_cut (σ := (Int32)) (fun (v_894 : Int32) H locs ls => Rg 0 1 v_894 ∧ H = s.heap ∧ locs = [] ∧ va_P D vwCl [(m0, .inr (10, (.ref mtp :: .int sta :: .int sru :: .ref msg :: .ref mln :: .ref mcl :: .ref mcs :: .ref mrd :: .int snx :: .int swr :: .int snu :: .int ste :: .int sma :: .int sde :: .int sli :: .ref mop :: .int sod :: .ref mst :: .int sto :: .ref mwd :: .ref msd :: .int sx_ :: .ref mws :: .int sun :: .ref mfr :: .ref mqu :: .ref miw :: .int sfi :: .int swa :: .long sdx :: .ref mim :: .ref mix :: .ref mmd :: []))), (msd, .inl ((cs 0), 133, .inl gsd))] H ∧ lv_has ls 7 [(6, .int x_885), (5, .int v_54), (4, .int v_55), (3, .int v_56), (2, .int v_57), (0, .ref m0), (1, .int a)]) 61 (fun (v_894 : Int32) => [.int v_894, .int v_56]) ?_ (fun hj_895 => ?_)
        · rintro v_894 H locs ls ⟨r_896, hHe, hlc, hP, hl⟩
          refine lv_iadd hx hb dX12_moves_61 ?_
          refine lv_topi (fun x_897 e_898 => ?_)
          refine lv_istore_n (lv' := [(3, .int x_897), (6, .int x_885), (5, .int v_54), (4, .int v_55), (2, .int v_57), (0, .ref m0), (1, .int a)]) hx hb dX12_moves_62 rfl hl (by decide) rfl (fun ls hl => ?_)
          refine lv_iload hx hb dX12_moves_63 (lv_at hl 1 rfl) ?_
          refine w_cut (σ := (Int32) × (Int32)) (fun x9 H locs ls => match x9 with | (v_914, v_915) => H = s.heap ∧ locs = [] ∧ va_P D vwCl [(m0, .inr (10, (.ref mtp :: .int sta :: .int sru :: .ref msg :: .ref mln :: .ref mcl :: .ref mcs :: .ref mrd :: .int snx :: .int swr :: .int snu :: .int ste :: .int sma :: .int sde :: .int sli :: .ref mop :: .int sod :: .ref mst :: .int sto :: .ref mwd :: .ref msd :: .int sx_ :: .ref mws :: .int sun :: .ref mfr :: .ref mqu :: .ref miw :: .int sfi :: .int swa :: .long sdx :: .ref mim :: .ref mix :: .ref mmd :: []))), (msd, .inl ((cs 0), 133, .inl gsd))] H ∧ lv_has ls 7 [(3, .int x_897), (6, .int x_885), (5, .int v_54), (4, .int v_914), (2, .int v_915), (0, .ref m0), (1, .int a)]) 100 (fun x9 => match x9 with | (v_914, v_915) => []) ?_ (fun hj_916 => ?_)
          · rintro ⟨v_914, v_915⟩ H locs ls ⟨hHe, hlc, hP, hl⟩
            obtain ⟨x_917, e_918⟩ : ∃ z : Int32, z = v_54 + Int32.ofInt 1 := ⟨_, rfl⟩
            have r_919 : Rg 1 10 x_917 := Rg.add e_918 r_868 (Rg.c (c := Int32.ofInt 1) (k := 1) rfl) (by decide)
            refine lv_iinc (v := x_917) (lv' := [(5, .int x_917), (3, .int x_897), (6, .int x_885), (4, .int v_914), (2, .int v_915), (0, .ref m0), (1, .int a)]) hx hb dX12_moves_100 hl (k := 2) rfl (e_918.symm) (by decide) rfl (fun ls hl => ?_)
            refine lv_goto (tgt := 24) hx hb dX12_moves_103 (by decide) ?_
            exact ih_864 (x_917, v_914, x_897, v_915) _ _ _ ⟨(Rg.wk (lo2 := 0) (hi2 := 10) r_919 (by decide)), hHe, hlc, hP, lv_sub hl [0, 3, 1, 4, 5, 6] rfl⟩ (ms_up e_918 r_868 (Rg.c (c := Int32.ofInt 1) (k := 1) rfl) (by decide))
          · refine lv_if_lt (tgt := 100) hx hb dX12_moves_65 (by decide) (fun c_899 => ?_) (fun c_899 => ?_)
            · have r_900 : Rg (-1) (-1) x_885 := Rg.lt_l c_899 r_887 (Rg.c (c := 0) (k := 0) rfl) (by decide)
              exact hj_916 (v_55, v_57) _ _ _ ⟨hHe, hlc, hP, lv_sub hl [0, 1, 2, 3, 4, 5, 6] rfl⟩
            · have r_901 : Rg 0 9 x_885 := Rg.le_r (nlt_le c_899) (Rg.c (c := 0) (k := 0) rfl) r_887 (by decide)
              refine lv_iload hx hb dX12_moves_68 (lv_at hl 1 rfl) ?_
              refine lv_iload hx hb dX12_moves_70 (lv_at hl 2 rfl) ?_
              refine lv_icmp_ne (tgt := 78) hx hb dX12_moves_72 (by decide) (fun c_920 => ?_) (fun c_920 => ?_)
              · obtain ⟨x_921, e_922⟩ : ∃ z : Int32, z = v_57 + Int32.ofInt 1 := ⟨_, rfl⟩
                refine lv_iinc (v := x_921) (lv' := [(2, .int x_921), (3, .int x_897), (6, .int x_885), (5, .int v_54), (4, .int v_55), (0, .ref m0), (1, .int a)]) hx hb dX12_moves_78 hl (k := 4) rfl (e_922.symm) (by decide) rfl (fun ls hl => ?_)
                refine lv_iload hx hb dX12_moves_81 (lv_at hl 4 rfl) ?_
                refine lv_aload_n hx hb dX12_moves_83 rfl (lv_at hl 5 rfl) ?_
                refine lv_iload hx hb dX12_moves_84 (lv_at hl 3 rfl) ?_
                have hPc := va_P.sub (ws' := [(m0, .inr (10, (.ref mtp :: .int sta :: .int sru :: .ref msg :: .ref mln :: .ref mcl :: .ref mcs :: .ref mrd :: .int snx :: .int swr :: .int snu :: .int ste :: .int sma :: .int sde :: .int sli :: .ref mop :: .int sod :: .ref mst :: .int sto :: .ref mwd :: .ref msd :: .int sx_ :: .ref mws :: .int sun :: .ref mfr :: .ref mqu :: .ref miw :: .int sfi :: .int swa :: .long sdx :: .ref mim :: .ref mix :: .ref mmd :: []))), (msd, .inl ((cs 0), 133, .inl gsd))]) hP [0, 1] rfl
                refine cl_P (W.runV (As := [.int v_54]) (rest := [.int v_55]) ⟨hx, hb, hml, hown, hts⟩ (c_M_isRound l D cs m0 mtp sta sru msg mln mcl mcs mrd snx swr snu ste sma sde sli mop sod mst sto mwd msd sx_ mws sun mfr mqu miw sfi swa sdx mim mix mmd gsd v_54 hsi r_868) ⟨callB_of 1 hts (gd_C qq_8_73) rfl rfl rfl (hT _ qq_1_9) (hT _ qq_8_70) (by decide +kernel) (rm_R rfl rfl), (hT _ qq_8_72), (hT _ qs_7_8)⟩ (pq_V hPc hK hN (ci := 10) (q0 := 0) rfl rfl) rfl rfl hl.1 rfl (lv_room (Nat.le_of_ble_eq_true rfl)) dX12_moves_86 ⟨Nat.le_of_ble_eq_true rfl, Nat.le_of_ble_eq_true rfl⟩) (fun v9 hz_924 => ?_)
                obtain ⟨x_923, rfl, r_925⟩ := hz_924
                refine w_cut (σ := (Int32)) (fun (v_929 : Int32) H locs ls => Rg 0 1 v_929 ∧ H = s.heap ∧ locs = [] ∧ va_P D vwCl [(m0, .inr (10, (.ref mtp :: .int sta :: .int sru :: .ref msg :: .ref mln :: .ref mcl :: .ref mcs :: .ref mrd :: .int snx :: .int swr :: .int snu :: .int ste :: .int sma :: .int sde :: .int sli :: .ref mop :: .int sod :: .ref mst :: .int sto :: .ref mwd :: .ref msd :: .int sx_ :: .ref mws :: .int sun :: .ref mfr :: .ref mqu :: .ref miw :: .int sfi :: .int swa :: .long sdx :: .ref mim :: .ref mix :: .ref mmd :: []))), (msd, .inl ((cs 0), 133, .inl gsd))] H ∧ lv_has ls 7 [(2, .int x_921), (3, .int x_897), (6, .int x_885), (5, .int v_54), (4, .int v_55), (0, .ref m0), (1, .int a)]) 97 (fun (v_929 : Int32) => [.int v_929, .int v_55]) ?_ (fun hj_930 => ?_)
                · rintro v_929 H locs ls ⟨r_931, hHe, hlc, hP, hl⟩
                  refine lv_iadd hx hb dX12_moves_97 ?_
                  refine lv_topi (fun x_932 e_933 => ?_)
                  refine lv_istore (lv' := [(4, .int x_932), (2, .int x_921), (3, .int x_897), (6, .int x_885), (5, .int v_54), (0, .ref m0), (1, .int a)]) hx hb dX12_moves_98 hl (by decide) rfl (fun ls hl => ?_)
                  exact hj_916 (x_932, x_921) _ _ _ ⟨hHe, hlc, hP, lv_sub hl [2, 3, 4, 0, 1, 5, 6] rfl⟩
                · refine lv_if_eq (tgt := 96) hx hb dX12_moves_89 (by decide) (fun c_926 => ?_) (fun c_926 => ?_)
                  · have r_927 : Rg 0 0 x_923 := Rg.eq_l c_926 r_925 (Rg.c (c := 0) (k := 0) rfl) (by decide)
                    refine lv_iconst (v := 0) hx hb dX12_moves_96 (by decide) ?_
                    exact hj_930 0 _ _ _ ⟨(Rg.wk (lo2 := 0) (hi2 := 1) (Rg.c (c := 0) (k := 0) rfl) (by decide)), hHe, hlc, hP, lv_sub hl [0, 1, 2, 3, 4, 5, 6] rfl⟩
                  · have r_928 : Rg 1 1 x_923 := Rg.ne c_926 r_925 (Rg.c (c := 0) (k := 0) rfl) (by decide)
                    refine lv_iconst (v := 1) hx hb dX12_moves_92 (by decide) ?_
                    refine lv_goto (tgt := 97) hx hb dX12_moves_93 (by decide) ?_
                    exact hj_930 1 _ _ _ ⟨(Rg.wk (lo2 := 0) (hi2 := 1) (Rg.c (c := 1) (k := 1) rfl) (by decide)), hHe, hlc, hP, lv_sub hl [0, 1, 2, 3, 4, 5, 6] rfl⟩
              · refine lv_goto (tgt := 100) hx hb dX12_moves_75 (by decide) ?_
                exact hj_916 (v_55, v_57) _ _ _ ⟨hHe, hlc, hP, lv_sub hl [0, 1, 2, 3, 4, 5, 6] rfl⟩
        · refine lv_if_ge (tgt := 60) hx hb dX12_moves_53 (by decide) (fun c_891 => ?_) (fun c_891 => ?_)
          · have r_892 : Rg 0 9 x_885 := Rg.le_r c_891 (Rg.c (c := 0) (k := 0) rfl) r_887 (by decide)
            refine lv_iconst (v := 0) hx hb dX12_moves_60 (by decide) ?_
            exact hj_895 0 _ _ _ ⟨(Rg.wk (lo2 := 0) (hi2 := 1) (Rg.c (c := 0) (k := 0) rfl) (by decide)), hHe, hlc, hP, lv_sub hl [0, 1, 2, 3, 4, 5, 6] rfl⟩
          · have r_893 : Rg (-1) (-1) x_885 := Rg.lt_l (nle_lt c_891) r_887 (Rg.c (c := 0) (k := 0) rfl) (by decide)
            refine lv_iconst (v := 1) hx hb dX12_moves_56 (by decide) ?_
            refine lv_goto (tgt := 61) hx hb dX12_moves_57 (by decide) ?_
            exact hj_895 1 _ _ _ ⟨(Rg.wk (lo2 := 0) (hi2 := 1) (Rg.c (c := 1) (k := 1) rfl) (by decide)), hHe, hlc, hP, lv_sub hl [0, 1, 2, 3, 4, 5, 6] rfl⟩
      · have r_889 : Rg 1 9 a := Rg.le_l (nlt_le c_888) r_8 r_887 (by decide)
        have r_890 : Rg 1 9 x_885 := Rg.le_r (nlt_le c_888) r_8 r_887 (by decide)
        refine lv_iconst (v := (-1)) hx hb dX12_moves_48 (by decide) ?_
        exact W.iret (v := (-1)) hx hb hr (fun t9 ht9 hW9 => ⟨⟨_, rfl, _, rfl⟩, ht9.trans hHe⟩) (fun _ h9 => by rw [hlc] at h9; exact absurd h9 List.not_mem_nil) dX12_moves_49
  · have r_9 : Rg 0 0 x_3 := Rg.eq_l c_6 r_5.1 (Rg.c (c := 0) (k := 0) rfl) (by decide)
    refine lv_iconst (v := (-1)) hx hb dX12_moves_12 (by decide) ?_
    exact W.iret (v := (-1)) hx hb hr (fun t9 ht9 hW9 => ⟨⟨_, rfl, _, rfl⟩, ht9.trans hHe⟩) (fun _ h9 => by rw [hlc] at h9; exact absurd h9 List.not_mem_nil) dX12_moves_13
