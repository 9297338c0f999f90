theorem dX12_openIn_0 : decode cX12_openIn 0 = .ok (.iconst 1, 1) := by decide +kernel
theorem dX12_openIn_1 : decode cX12_openIn 1 = .ok (.aload_n 0, 1) := by decide +kernel
theorem dX12_openIn_2 : decode cX12_openIn 2 = .ok (.getfield 39, 3) := by decide +kernel
theorem dX12_openIn_5 : decode cX12_openIn 5 = .ok (.iconst 0, 1) := by decide +kernel
theorem dX12_openIn_6 : decode cX12_openIn 6 = .ok (.iaload, 1) := by decide +kernel
theorem dX12_openIn_7 : decode cX12_openIn 7 = .ok (.ishl, 1) := by decide +kernel
theorem dX12_openIn_8 : decode cX12_openIn 8 = .ok (.iconst 1, 1) := by decide +kernel
theorem dX12_openIn_9 : decode cX12_openIn 9 = .ok (.isub, 1) := by decide +kernel
theorem dX12_openIn_10 : decode cX12_openIn 10 = .ok (.iload_n 1, 1) := by decide +kernel
theorem dX12_openIn_11 : decode cX12_openIn 11 = .ok (.invokestatic 338, 3) := by decide +kernel
theorem dX12_openIn_14 : decode cX12_openIn 14 = .ok (.iconst (-1), 1) := by decide +kernel
theorem dX12_openIn_15 : decode cX12_openIn 15 = .ok (.ixor, 1) := by decide +kernel
theorem dX12_openIn_16 : decode cX12_openIn 16 = .ok (.iand, 1) := by decide +kernel
theorem dX12_openIn_17 : decode cX12_openIn 17 = .ok (.ireturn, 1) := by decide +kernel
set_option maxHeartbeats 4000000 in
set_option maxRecDepth 100000 in
theorem c_M_openIn (l : Launch) (D : va_G) (cs : Nat → ClassId) (m0 : Nat) (mtp : Nat) (sta : Int32) (sru : Int32) (msg : Nat) (mln : Nat) (mcl : Nat) (mcs : Nat) (mrd : Nat) (snx : Int32) (swr : Int32) (snu : Int32) (ste : Int32) (sma : Int32) (sde : Int32) (sli : Int32) (mop : Nat) (sod : Int32) (mst : Nat) (sto : Int32) (mwd : Nat) (msd : Nat) (sx_ : Int32) (mws : Nat) (sun : Int32) (mfr : Nat) (mqu : Nat) (miw : Nat) (sfi : Int32) (swa : Int32) (sdx : Int64) (mim : Nat) (mix : Nat) (mmd : Nat) (gsd : Nat → Int32) (a : Int32) (hsi : SI gsd) (r_a : Rg 0 65535 a) : Met l yX12_openIn (Cond.code yX12_openIn cX12_openIn 2 (some .int) :: TB) (RM 1 0 0) (va_Pc [.ref m0, .int a] (PRR D cs [(m0, .inr (10, (.ref mtp :: .int sta :: .int sru :: .ref msg :: .ref mln :: .ref mcl :: .ref mcs :: .ref mrd :: .int snx :: .int swr :: .int snu :: .int ste :: .int sma :: .int sde :: .int sli :: .ref mop :: .int sod :: .ref mst :: .int sto :: .ref mwd :: .ref msd :: .int sx_ :: .ref mws :: .int sun :: .ref mfr :: .ref mqu :: .ref miw :: .int sfi :: .int swa :: .long sdx :: .ref mim :: .ref mix :: .ref mmd :: []))), (msd, .inl ((cs 0), 133, .inl gsd))])) (k2_QcV (.int ((((1 : Int32) <<< (gsd 0 &&& 31)) - 1) &&& (nI (cN a % 256) ^^^ (-1))))) 0 0 (fun _ => False) := by
  refine MER (y := yX12_openIn) (cc := cX12_openIn) (maxL := 2) (ret := (some .int)) (d := 1) (D := D) (cs := cs) (ws := [(m0, .inr (10, (.ref mtp :: .int sta :: .int sru :: .ref msg :: .ref mln :: .ref mcl :: .ref mcs :: .ref mrd :: .int snx :: .int swr :: .int snu :: .int ste :: .int sma :: .int sde :: .int sli :: .ref mop :: .int sod :: .ref mst :: .int sto :: .ref mwd :: .ref msd :: .int sx_ :: .ref mws :: .int sun :: .ref mfr :: .ref mqu :: .ref miw :: .int sfi :: .int swa :: .long sdx :: .ref mim :: .ref mix :: .ref mmd :: []))), (msd, .inl ((cs 0), 133, .inl gsd))]) (av := [.ref m0, .int a]) (Qc := k2_QcV (.int ((((1 : Int32) <<< (gsd 0 &&& 31)) - 1) &&& (nI (cN a % 256) ^^^ (-1))))) (by decide) (Nat.le_of_ble_eq_true rfl) ?_
  intro p e s m below meth c ls H hHe hx hb hr hml hown hts hlocks hP hK hN hl
  obtain ⟨locs, hlc⟩ : ∃ z : List Loc, z = [] := ⟨_, rfl⟩
  rw [← hlc]
  have hown : s.vm.findClass "WrongHoleModel" = some m.cls := hown
  have hT : ∀ w ∈ TB, w.before ([.ref m0, .int a] : List Value).toArray s = true := fun w h => hts w (List.mem_cons_of_mem _ h)
  have hl : lv_has ls 2 [(0, .ref m0), (1, .int a)] := hl
  have hP : va_P D vwCl [(m0, .inr (10, (.ref mtp :: .int sta :: .int sru :: .ref msg :: .ref mln :: .ref mcl :: .ref mcs :: .ref mrd :: .int snx :: .int swr :: .int snu :: .int ste :: .int sma :: .int sde :: .int sli :: .ref mop :: .int sod :: .ref mst :: .int sto :: .ref mwd :: .ref msd :: .int sx_ :: .ref mws :: .int sun :: .ref mfr :: .ref mqu :: .ref miw :: .int sfi :: .int swa :: .long sdx :: .ref mim :: .ref mix :: .ref mmd :: []))), (msd, .inl ((cs 0), 133, .inl gsd))] H := hP
  refine lv_iconst (v := 1) hx hb dX12_openIn_0 (by decide) ?_
  refine lv_aload_n hx hb dX12_openIn_1 rfl (lv_at hl 0 rfl) ?_
  refine va_get (D := D) (ci := 10) (v := .ref msd) (C := "WrongHoleModel") (T := TX12) (N := 33) hx hb hts (iq_RX12 _) hown hK hP 0 rfl rfl 20 (by decide) (hT _ qq_5_172) (fun _ h9 => h9) rfl dX12_openIn_2 ?_
  refine lv_iconst (v := 0) hx hb dX12_openIn_5 (by decide) ?_
  have hi_1 : vp_in 0 133 := vi_c rfl
  refine va_iald hx hb hK hP 1 0 rfl rfl hi_1 dX12_openIn_6 ?_
  refine lv_topi (fun x_2 e_3 => ?_)
  have r_4 : Rg 0 8 x_2 := Rg.of e_3 (hsi.a0)
  refine lv_ishl hx hb dX12_openIn_7 ?_
  refine lv_topi (fun x_5 e_6 => ?_)
  have r_7 : Rg 0 256 x_5 := Rg.shl (ha := 1) (k := 8) e_6 (Rg.wk (Rg.c (c := 1) (k := 1) rfl) (by decide)) (Rg.wk r_4 (by decide)) (by decide) (by decide)
  refine lv_iconst (v := 1) hx hb dX12_openIn_8 (by decide) ?_
  refine lv_isub hx hb dX12_openIn_9 ?_
  refine lv_topi (fun x_8 e_9 => ?_)
  have r_10 : Rg (-1) 255 x_8 := Rg.sub e_9 r_7 (Rg.c (c := 1) (k := 1) rfl) (by decide)
  refine lv_iload_n hx hb dX12_openIn_10 rfl (lv_at hl 1 rfl) ?_
  have hPc := va_P.sub (ws' := []) hP [] rfl
  refine cl_V (W.runS (As := [.int a]) (rest := [.int x_8]) ⟨hx, hb, hml, hown, hts⟩ (c_M_inOf l D cs a r_a) ⟨callB_of 1 hts (gd_C qq_7_58) rfl rfl rfl (hT _ qq_1_9) (hT _ qq_7_56) (by decide +kernel) (rm_R rfl rfl), (hT _ qq_7_57)⟩ (pq_S hPc hK hN) rfl rfl hl.1 rfl (lv_room (Nat.le_of_ble_eq_true rfl)) dX12_openIn_11 ⟨Nat.le_of_ble_eq_true rfl, Nat.le_of_ble_eq_true rfl⟩) ?_
  refine lv_topi (fun x_11 e_12 => ?_)
  have r_13 : Rg 0 255 x_11 := Rg.of e_12 (rg_held _)
  refine lv_iconst (v := (-1)) hx hb dX12_openIn_14 (by decide) ?_
  refine lv_ixor hx hb dX12_openIn_15 ?_
  refine lv_topi (fun x_14 e_15 => ?_)
  refine lv_iand hx hb dX12_openIn_16 ?_
  refine lv_topi (fun x_16 e_17 => ?_)
  exact W.iret (v := x_16) hx hb hr (fun t9 ht9 hW9 => ⟨by rw [show (.int ((((1 : Int32) <<< (gsd 0 &&& 31)) - 1) &&& (nI (cN a % 256) ^^^ (-1))) : Value) = .int x_16 from (congrArg Value.int (show ((((1 : Int32) <<< (gsd 0 &&& 31)) - 1) &&& (nI (cN a % 256) ^^^ (-1))) = x_16 from by rw [e_17, e_9, e_6, e_3, e_15, e_12]; rfl))], ht9.trans hHe⟩) (fun _ h9 => by rw [hlc] at h9; exact absurd h9 List.not_mem_nil) dX12_openIn_17
theorem dX12_runIn_0 : decode cX12_runIn 0 = .ok (.iconst 0, 1) := by decide +kernel
theorem dX12_runIn_1 : decode cX12_runIn 1 = .ok (.istore_n 2, 1) := by decide +kernel
theorem dX12_runIn_2 : decode cX12_runIn 2 = .ok (.iconst 0, 1) := by decide +kernel
theorem dX12_runIn_3 : decode cX12_runIn 3 = .ok (.istore_n 3, 1) := by decide +kernel
theorem dX12_runIn_4 : decode cX12_runIn 4 = .ok (.iconst 0, 1) := by decide +kernel
theorem dX12_runIn_5 : decode cX12_runIn 5 = .ok (.istore 4, 2) := by decide +kernel
theorem dX12_runIn_7 : decode cX12_runIn 7 = .ok (.iload 4, 2) := by decide +kernel
theorem dX12_runIn_9 : decode cX12_runIn 9 = .ok (.aload_n 0, 1) := by decide +kernel
theorem dX12_runIn_10 : decode cX12_runIn 10 = .ok (.getfield 39, 3) := by decide +kernel
theorem dX12_runIn_13 : decode cX12_runIn 13 = .ok (.iconst 0, 1) := by decide +kernel
theorem dX12_runIn_14 : decode cX12_runIn 14 = .ok (.iaload, 1) := by decide +kernel
theorem dX12_runIn_15 : decode cX12_runIn 15 = .ok (.if_icmp .ge 40, 3) := by decide +kernel
theorem dX12_runIn_55 : decode cX12_runIn 55 = .ok (.iload_n 2, 1) := by decide +kernel
theorem dX12_runIn_56 : decode cX12_runIn 56 = .ok (.ireturn, 1) := by decide +kernel
theorem dX12_runIn_18 : decode cX12_runIn 18 = .ok (.iload_n 1, 1) := by decide +kernel
theorem dX12_runIn_19 : decode cX12_runIn 19 = .ok (.invokestatic 338, 3) := by decide +kernel
theorem dX12_runIn_22 : decode cX12_runIn 22 = .ok (.iload 4, 2) := by decide +kernel
theorem dX12_runIn_24 : decode cX12_runIn 24 = .ok (.invokestatic 332, 3) := by decide +kernel
theorem dX12_runIn_27 : decode cX12_runIn 27 = .ok (.ifCond .eq 7, 3) := by decide +kernel
theorem dX12_runIn_37 : decode cX12_runIn 37 = .ok (.istore_n 3, 1) := by decide +kernel
theorem dX12_runIn_38 : decode cX12_runIn 38 = .ok (.iload_n 3, 1) := by decide +kernel
theorem dX12_runIn_39 : decode cX12_runIn 39 = .ok (.iload_n 2, 1) := by decide +kernel
theorem dX12_runIn_40 : decode cX12_runIn 40 = .ok (.if_icmp .le 7, 3) := by decide +kernel
theorem dX12_runIn_48 : decode cX12_runIn 48 = .ok (.istore_n 2, 1) := by decide +kernel
theorem dX12_runIn_49 : decode cX12_runIn 49 = .ok (.iinc 4 1, 3) := by decide +kernel
theorem dX12_runIn_52 : decode cX12_runIn 52 = .ok (.goto (-45), 3) := by decide +kernel
theorem dX12_runIn_47 : decode cX12_runIn 47 = .ok (.iload_n 2, 1) := by decide +kernel
theorem dX12_runIn_43 : decode cX12_runIn 43 = .ok (.iload_n 3, 1) := by decide +kernel
theorem dX12_runIn_44 : decode cX12_runIn 44 = .ok (.goto 4, 3) := by decide +kernel
theorem dX12_runIn_34 : decode cX12_runIn 34 = .ok (.iload_n 3, 1) := by decide +kernel
theorem dX12_runIn_35 : decode cX12_runIn 35 = .ok (.iconst 1, 1) := by decide +kernel
theorem dX12_runIn_36 : decode cX12_runIn 36 = .ok (.iadd, 1) := by decide +kernel
theorem dX12_runIn_30 : decode cX12_runIn 30 = .ok (.iconst 0, 1) := by decide +kernel
theorem dX12_runIn_31 : decode cX12_runIn 31 = .ok (.goto 6, 3) := by decide +kernel
set_option maxHeartbeats 4000000 in
set_option maxRecDepth 100000 in
theorem c_M_runIn (l : Launch) (D : va_G) (cs : Nat → ClassId) (m0 : Nat) (mtp : Nat) (sta : Int32) (sru : Int32) (msg : Nat) (mln : Nat) (mcl : Nat) (mcs : Nat) (mrd : Nat) (snx : Int32) (swr : Int32) (snu : Int32) (ste : Int32) (sma : Int32) (sde : Int32) (sli : Int32) (mop : Nat) (sod : Int32) (mst : Nat) (sto : Int32) (mwd : Nat) (msd : Nat) (sx_ : Int32) (mws : Nat) (sun : Int32) (mfr : Nat) (mqu : Nat) (miw : Nat) (sfi : Int32) (swa : Int32) (sdx : Int64) (mim : Nat) (mix : Nat) (mmd : Nat) (gsd : Nat → Int32) (a : Int32) (hsi : SI gsd) (r_a : Rg 0 65535 a) : Met l yX12_runIn (Cond.code yX12_runIn cX12_runIn 5 (some .int) :: TB) (RM 1 0 0) (va_Pc [.ref m0, .int a] (PRR D cs [(m0, .inr (10, (.ref mtp :: .int sta :: .int sru :: .ref msg :: .ref mln :: .ref mcl :: .ref mcs :: .ref mrd :: .int snx :: .int swr :: .int snu :: .int ste :: .int sma :: .int sde :: .int sli :: .ref mop :: .int sod :: .ref mst :: .int sto :: .ref mwd :: .ref msd :: .int sx_ :: .ref mws :: .int sun :: .ref mfr :: .ref mqu :: .ref miw :: .int sfi :: .int swa :: .long sdx :: .ref mim :: .ref mix :: .ref mmd :: []))), (msd, .inl ((cs 0), 133, .inl gsd))])) (k2_QcV (.int (nI (runF (cN a % 256) (cN (gsd 0))).2))) 0 0 (fun _ => False) := by
  refine MER (y := yX12_runIn) (cc := cX12_runIn) (maxL := 5) (ret := (some .int)) (d := 1) (D := D) (cs := cs) (ws := [(m0, .inr (10, (.ref mtp :: .int sta :: .int sru :: .ref msg :: .ref mln :: .ref mcl :: .ref mcs :: .ref mrd :: .int snx :: .int swr :: .int snu :: .int ste :: .int sma :: .int sde :: .int sli :: .ref mop :: .int sod :: .ref mst :: .int sto :: .ref mwd :: .ref msd :: .int sx_ :: .ref mws :: .int sun :: .ref mfr :: .ref mqu :: .ref miw :: .int sfi :: .int swa :: .long sdx :: .ref mim :: .ref mix :: .ref mmd :: []))), (msd, .inl ((cs 0), 133, .inl gsd))]) (av := [.ref m0, .int a]) (Qc := k2_QcV (.int (nI (runF (cN a % 256) (cN (gsd 0))).2))) (by decide) (Nat.le_of_ble_eq_true rfl) ?_
  intro p e s m below meth c ls H hHe hx hb hr hml hown hts hlocks hP hK hN hl
  obtain ⟨locs, hlc⟩ : ∃ z : List Loc, z = [] := ⟨_, rfl⟩
  rw [← hlc]
  have hown : s.vm.findClass "WrongHoleModel" = some m.cls := hown
  have hT : ∀ w ∈ TB, w.before ([.ref m0, .int a] : List Value).toArray s = true := fun w h => hts w (List.mem_cons_of_mem _ h)
  have hl : lv_has ls 5 [(0, .ref m0), (1, .int a)] := hl
  have hP : va_P D vwCl [(m0, .inr (10, (.ref mtp :: .int sta :: .int sru :: .ref msg :: .ref mln :: .ref mcl :: .ref mcs :: .ref mrd :: .int snx :: .int swr :: .int snu :: .int ste :: .int sma :: .int sde :: .int sli :: .ref mop :: .int sod :: .ref mst :: .int sto :: .ref mwd :: .ref msd :: .int sx_ :: .ref mws :: .int sun :: .ref mfr :: .ref mqu :: .ref miw :: .int sfi :: .int swa :: .long sdx :: .ref mim :: .ref mix :: .ref mmd :: []))), (msd, .inl ((cs 0), 133, .inl gsd))] H := hP
  refine lv_iconst (v := 0) hx hb dX12_runIn_0 (by decide) ?_
  refine lv_istore_n (lv' := [(2, .int 0), (0, .ref m0), (1, .int a)]) hx hb dX12_runIn_1 rfl hl (by decide) rfl (fun ls hl => ?_)
  refine lv_iconst (v := 0) hx hb dX12_runIn_2 (by decide) ?_
  refine lv_istore_n (lv' := [(3, .int 0), (2, .int 0), (0, .ref m0), (1, .int a)]) hx hb dX12_runIn_3 rfl hl (by decide) rfl (fun ls hl => ?_)
  refine lv_iconst (v := 0) hx hb dX12_runIn_4 (by decide) ?_
  refine lv_istore (lv' := [(4, .int 0), (3, .int 0), (2, .int 0), (0, .ref m0), (1, .int a)]) hx hb dX12_runIn_5 hl (by decide) rfl (fun ls hl => ?_)
  refine w_wh (σ := (Int32) × (Int32) × (Int32)) (fun x9 H locs ls => match x9 with | (v_35, v_36, v_37) => Rg 0 8 v_35 ∧ (v_36 = nI (runF (cN a % 256) (cN v_35)).1 ∧ v_37 = nI (runF (cN a % 256) (cN v_35)).2 ∧ cN v_35 ≤ cN (gsd 0)) ∧ H = s.heap ∧ locs = [] ∧ va_P D vwCl [(m0, .inr (10, (.ref mtp :: .int sta :: .int sru :: .ref msg :: .ref mln :: .ref mcl :: .ref mcs :: .ref mrd :: .int snx :: .int swr :: .int snu :: .int ste :: .int sma :: .int sde :: .int sli :: .ref mop :: .int sod :: .ref mst :: .int sto :: .ref mwd :: .ref msd :: .int sx_ :: .ref mws :: .int sun :: .ref mfr :: .ref mqu :: .ref miw :: .int sfi :: .int swa :: .long sdx :: .ref mim :: .ref mix :: .ref mmd :: []))), (msd, .inl ((cs 0), 133, .inl gsd))] H ∧ lv_has ls 5 [(4, .int v_35), (3, .int v_36), (2, .int v_37), (0, .ref m0), (1, .int a)]) (fun x9 => match x9 with | (v_35, v_36, v_37) => (8 - Int32.toInt v_35).toNat) 7 ?_ (0, 0, 0) H locs ls ⟨(Rg.wk (lo2 := 0) (hi2 := 8) (Rg.c (c := 0) (k := 0) rfl) (by decide)), ⟨rfl, rfl, Nat.zero_le _⟩, hHe, hlc, hP, lv_sub hl [0, 1, 2, 3, 4] rfl⟩
  rintro ⟨v_35, v_36, v_37⟩ H locs ls ⟨r_231, iv_232, hHe, hlc, hP, hl⟩ ih_230
  refine lv_iload hx hb dX12_runIn_7 (lv_at hl 0 rfl) ?_
  refine lv_aload_n hx hb dX12_runIn_9 rfl (lv_at hl 3 rfl) ?_
  refine va_get (D := D) (ci := 10) (v := .ref msd) (C := "WrongHoleModel") (T := TX12) (N := 33) hx hb hts (iq_RX12 _) hown hK hP 0 rfl rfl 20 (by decide) (hT _ qq_5_172) (fun _ h9 => h9) rfl dX12_runIn_10 ?_
  refine lv_iconst (v := 0) hx hb dX12_runIn_13 (by decide) ?_
  have hi_233 : vp_in 0 133 := vi_c rfl
  refine va_iald hx hb hK hP 1 0 rfl rfl hi_233 dX12_runIn_14 ?_
  refine lv_topi (fun x_234 e_235 => ?_)
  have r_236 : Rg 0 8 x_234 := Rg.of e_235 (hsi.a0)
  refine lv_icmp_ge (tgt := 55) hx hb dX12_runIn_15 (by decide) (fun c_237 => ?_) (fun c_237 => ?_)
  · refine lv_iload_n hx hb dX12_runIn_55 rfl (lv_at hl 2 rfl) ?_
    exact W.iret (v := v_37) hx hb hr (fun t9 ht9 hW9 => ⟨by rw [show (.int (nI (runF (cN a % 256) (cN (gsd 0))).2) : Value) = .int v_37 from (congrArg Value.int (show nI (runF (cN a % 256) (cN (gsd 0))).2 = v_37 from by rw [iv_232.2.1, show cN v_35 = cN (gsd 0) from by have h9 := le_cN c_237 r_236 r_231 (by decide); rw [show x_234 = gsd 0 from e_235] at h9; have := iv_232.2.2; omega]))], ht9.trans hHe⟩) (fun _ h9 => by rw [hlc] at h9; exact absurd h9 List.not_mem_nil) dX12_runIn_56
  · have r_238 : Rg 0 7 v_35 := Rg.lt_l (nle_lt c_237) r_231 r_236 (by decide)
    have r_239 : Rg 1 8 x_234 := Rg.lt_r (nle_lt c_237) r_231 r_236 (by decide)
    refine lv_iload_n hx hb dX12_runIn_18 rfl (lv_at hl 4 rfl) ?_
    have hPc := va_P.sub (ws' := []) hP [] rfl
    refine cl_V (W.runS (As := [.int a]) (rest := []) ⟨hx, hb, hml, hown, hts⟩ (c_M_inOf l D cs a r_a) ⟨callB_of 1 hts (gd_C qq_7_58) rfl rfl rfl (hT _ qq_1_9) (hT _ qq_7_56) (by decide +kernel) (rm_R rfl rfl), (hT _ qq_7_57)⟩ (pq_S hPc hK hN) rfl rfl hl.1 rfl (lv_room (Nat.le_of_ble_eq_true rfl)) dX12_runIn_19 ⟨Nat.le_of_ble_eq_true rfl, Nat.le_of_ble_eq_true rfl⟩) ?_
    refine lv_topi (fun x_261 e_262 => ?_)
    have r_263 : Rg 0 255 x_261 := Rg.of e_262 (rg_held _)
    refine lv_iload hx hb dX12_runIn_22 (lv_at hl 0 rfl) ?_
    have hPc := va_P.sub (ws' := []) hP [] rfl
    refine cl_V (W.runS (As := [.int x_261, .int v_35]) (rest := []) ⟨hx, hb, hml, hown, hts⟩ (c_M_isOf l D cs x_261 v_35 r_263 r_238) ⟨callB_of 2 hts (gd_C qq_7_72) rfl rfl rfl (hT _ qq_1_9) (hT _ qq_7_70) (by decide +kernel) (rm_R rfl rfl), (hT _ qq_7_71)⟩ (pq_S hPc hK hN) rfl rfl hl.1 rfl (lv_room (Nat.le_of_ble_eq_true rfl)) dX12_runIn_24 ⟨Nat.le_of_ble_eq_true rfl, Nat.le_of_ble_eq_true rfl⟩) ?_
    refine lv_topi (fun x_264 e_265 => ?_)
    have r_266 : Rg 0 1 x_264 := Rg.of e_265 (bt_rg _ _)
    refine w_cut (σ := (Int32)) (fun (v_272 : Int32) H locs ls => (v_272 = nI (if bt (cN a % 256) (cN v_35) = 1 then 0 else (runF (cN a % 256) (cN v_35)).1 + 1)) ∧ H = s.heap ∧ locs = [] ∧ va_P D vwCl [(m0, .inr (10, (.ref mtp :: .int sta :: .int sru :: .ref msg :: .ref mln :: .ref mcl :: .ref mcs :: .ref mrd :: .int snx :: .int swr :: .int snu :: .int ste :: .int sma :: .int sde :: .int sli :: .ref mop :: .int sod :: .ref mst :: .int sto :: .ref mwd :: .ref msd :: .int sx_ :: .ref mws :: .int sun :: .ref mfr :: .ref mqu :: .ref miw :: .int sfi :: .int swa :: .long sdx :: .ref mim :: .ref mix :: .ref mmd :: []))), (msd, .inl ((cs 0), 133, .inl gsd))] H ∧ lv_has ls 5 [(4, .int v_35), (3, .int v_36), (2, .int v_37), (0, .ref m0), (1, .int a)]) 37 (fun (v_272 : Int32) => [.int v_272]) ?_ (fun hj_273 => ?_)
    · rintro v_272 H locs ls ⟨iv_274, hHe, hlc, hP, hl⟩
      refine lv_istore_n (lv' := [(3, .int v_272), (4, .int v_35), (2, .int v_37), (0, .ref m0), (1, .int a)]) hx hb dX12_runIn_37 rfl hl (by decide) rfl (fun ls hl => ?_)
      refine lv_iload_n hx hb dX12_runIn_38 rfl (lv_at hl 0 rfl) ?_
      refine lv_iload_n hx hb dX12_runIn_39 rfl (lv_at hl 2 rfl) ?_
      refine w_cut (σ := (Int32)) (fun (v_278 : Int32) H locs ls => (v_278 = nI (max (if bt (cN a % 256) (cN v_35) = 1 then 0 else (runF (cN a % 256) (cN v_35)).1 + 1) (runF (cN a % 256) (cN v_35)).2)) ∧ H = s.heap ∧ locs = [] ∧ va_P D vwCl [(m0, .inr (10, (.ref mtp :: .int sta :: .int sru :: .ref msg :: .ref mln :: .ref mcl :: .ref mcs :: .ref mrd :: .int snx :: .int swr :: .int snu :: .int ste :: .int sma :: .int sde :: .int sli :: .ref mop :: .int sod :: .ref mst :: .int sto :: .ref mwd :: .ref msd :: .int sx_ :: .ref mws :: .int sun :: .ref mfr :: .ref mqu :: .ref miw :: .int sfi :: .int swa :: .long sdx :: .ref mim :: .ref mix :: .ref mmd :: []))), (msd, .inl ((cs 0), 133, .inl gsd))] H ∧ lv_has ls 5 [(3, .int v_272), (4, .int v_35), (2, .int v_37), (0, .ref m0), (1, .int a)]) 48 (fun (v_278 : Int32) => [.int v_278]) ?_ (fun hj_279 => ?_)
      · rintro v_278 H locs ls ⟨iv_280, hHe, hlc, hP, hl⟩
        refine lv_istore_n (lv' := [(2, .int v_278), (3, .int v_272), (4, .int v_35), (0, .ref m0), (1, .int a)]) hx hb dX12_runIn_48 rfl hl (by decide) rfl (fun ls hl => ?_)
        obtain ⟨x_281, e_282⟩ : ∃ z : Int32, z = v_35 + Int32.ofInt 1 := ⟨_, rfl⟩
        have r_283 : Rg 1 8 x_281 := Rg.add e_282 r_238 (Rg.c (c := Int32.ofInt 1) (k := 1) rfl) (by decide)
        refine lv_iinc (v := x_281) (lv' := [(4, .int x_281), (2, .int v_278), (3, .int v_272), (0, .ref m0), (1, .int a)]) hx hb dX12_runIn_49 hl (k := 2) rfl (e_282.symm) (by decide) rfl (fun ls hl => ?_)
        refine lv_goto (tgt := 7) hx hb dX12_runIn_52 (by decide) ?_
        exact ih_230 (x_281, v_272, v_278) _ _ _ ⟨(Rg.wk (lo2 := 0) (hi2 := 8) r_283 (by decide)), ⟨by rw [(cN_add (k := 1) e_282 r_238 (Rg.c (c := Int32.ofInt 1) (k := 1) rfl) (by decide))]; exact iv_274, by rw [(cN_add (k := 1) e_282 r_238 (Rg.c (c := Int32.ofInt 1) (k := 1) rfl) (by decide))]; exact iv_280, by rw [(cN_add (k := 1) e_282 r_238 (Rg.c (c := Int32.ofInt 1) (k := 1) rfl) (by decide))]; exact (by have h9 := lt_cN (nle_lt c_237) r_238 r_239 (by decide); rw [e_235] at h9; exact h9)⟩, hHe, hlc, hP, lv_sub hl [0, 2, 1, 3, 4] rfl⟩ (ms_up e_282 r_238 (Rg.c (c := Int32.ofInt 1) (k := 1) rfl) (by decide))
      · refine lv_icmp_le (tgt := 47) hx hb dX12_runIn_40 (by decide) (fun c_275 => ?_) (fun c_275 => ?_)
        · refine lv_iload_n hx hb dX12_runIn_47 rfl (lv_at hl 2 rfl) ?_
          exact hj_279 v_37 _ _ _ ⟨(mx_t iv_274 iv_232.2.1 c_275 (rn_b _ _ (cN_lt r_238 (by decide))).1 (rn_b _ _ (cN_lt r_238 (by decide))).2.1), hHe, hlc, hP, lv_sub hl [0, 1, 2, 3, 4] rfl⟩
        · have r_276 : Rg (-2147483648) 2147483646 v_37 := Rg.lt_l (nle_lt c_275) (Rg.top v_37) (Rg.top v_272) (by decide)
          have r_277 : Rg (-2147483647) 2147483647 v_272 := Rg.lt_r (nle_lt c_275) (Rg.top v_37) (Rg.top v_272) (by decide)
          refine lv_iload_n hx hb dX12_runIn_43 rfl (lv_at hl 0 rfl) ?_
          refine lv_goto (tgt := 48) hx hb dX12_runIn_44 (by decide) ?_
          exact hj_279 v_272 _ _ _ ⟨(mx_f iv_274 iv_232.2.1 c_275 (rn_b _ _ (cN_lt r_238 (by decide))).1 (rn_b _ _ (cN_lt r_238 (by decide))).2.1), hHe, hlc, hP, lv_sub hl [0, 1, 2, 3, 4] rfl⟩
    · refine lv_if_eq (tgt := 34) hx hb dX12_runIn_27 (by decide) (fun c_267 => ?_) (fun c_267 => ?_)
      · have r_268 : Rg 0 0 x_264 := Rg.eq_l c_267 r_266 (Rg.c (c := 0) (k := 0) rfl) (by decide)
        refine lv_iload_n hx hb dX12_runIn_34 rfl (lv_at hl 1 rfl) ?_
        refine lv_iconst (v := 1) hx hb dX12_runIn_35 (by decide) ?_
        refine lv_iadd hx hb dX12_runIn_36 ?_
        refine lv_topi (fun x_284 e_285 => ?_)
        exact hj_273 x_284 _ _ _ ⟨(rn_0 (bz_0 (n := cN a % 256) (k := cN v_35) (show x_264 = nI (bt (cN a % 256) (cN v_35)) from by rw [e_265, c_held e_262]) c_267) iv_232.1 e_285), hHe, hlc, hP, lv_sub hl [0, 1, 2, 3, 4] rfl⟩
      · have r_269 : Rg 1 1 x_264 := Rg.ne c_267 r_266 (Rg.c (c := 0) (k := 0) rfl) (by decide)
        refine lv_iconst (v := 0) hx hb dX12_runIn_30 (by decide) ?_
        refine lv_goto (tgt := 37) hx hb dX12_runIn_31 (by decide) ?_
        exact hj_273 0 _ _ _ ⟨(rn_1 (f := gsd) (bz_1 (n := cN a % 256) (k := cN v_35) (show x_264 = nI (bt (cN a % 256) (cN v_35)) from by rw [e_265, c_held e_262]) c_267)), hHe, hlc, hP, lv_sub hl [0, 1, 2, 3, 4] rfl⟩
theorem dX12_isLawful_0 : decode cX12_isLawful 0 = .ok (.aload_n 0, 1) := by decide +kernel
theorem dX12_isLawful_1 : decode cX12_isLawful 1 = .ok (.iload_n 1, 1) := by decide +kernel
theorem dX12_isLawful_2 : decode cX12_isLawful 2 = .ok (.invokevirtual 350, 3) := by decide +kernel
theorem qq_7_85 : Cond.code yX12_runIn cX12_runIn 5 (some .int) ∈ TB := mk_tb (ti_7 (List.mem_of_getElem? (i := 85) rfl)) rfl
theorem qq_7_82 : Cond.methodLink "WrongHoleModel" 350 yX12_runIn ∈ TB := mk_tb (ti_7 (List.mem_of_getElem? (i := 82) rfl)) rfl
theorem qq_7_84 : Cond.instanceMethod yX12_runIn ∈ TB := mk_tb (ti_7 (List.mem_of_getElem? (i := 84) rfl)) rfl
theorem qs_5_7 : Cond.selects "WrongHoleModel" yX12_runIn yX12_runIn ∈ TB := mk_tb (ti_s (q := (yX12_runIn, 33)) (List.mem_append_right _ (List.mem_append_right _ (List.mem_append_right _ (List.mem_append_right _ (List.mem_append_right _ (List.mem_append_left _ (List.mem_of_getElem? (i := 7) rfl)))))))) rfl
theorem dX12_isLawful_5 : decode cX12_isLawful 5 = .ok (.aload_n 0, 1) := by decide +kernel
theorem dX12_isLawful_6 : decode cX12_isLawful 6 = .ok (.getfield 39, 3) := by decide +kernel
theorem dX12_isLawful_9 : decode cX12_isLawful 9 = .ok (.bipush 6, 2) := by decide +kernel
theorem dX12_isLawful_11 : decode cX12_isLawful 11 = .ok (.iaload, 1) := by decide +kernel
theorem dX12_isLawful_12 : decode cX12_isLawful 12 = .ok (.if_icmp .gt 23, 3) := by decide +kernel
theorem dX12_isLawful_35 : decode cX12_isLawful 35 = .ok (.iconst 0, 1) := by decide +kernel
theorem dX12_isLawful_36 : decode cX12_isLawful 36 = .ok (.ireturn, 1) := by decide +kernel
theorem dX12_isLawful_15 : decode cX12_isLawful 15 = .ok (.aload_n 0, 1) := by decide +kernel
theorem dX12_isLawful_16 : decode cX12_isLawful 16 = .ok (.iload_n 1, 1) := by decide +kernel
theorem dX12_isLawful_17 : decode cX12_isLawful 17 = .ok (.invokevirtual 353, 3) := by decide +kernel
theorem qq_7_55 : Cond.code yX12_openIn cX12_openIn 2 (some .int) ∈ TB := mk_tb (ti_7 (List.mem_of_getElem? (i := 55) rfl)) rfl
theorem qq_7_52 : Cond.methodLink "WrongHoleModel" 353 yX12_openIn ∈ TB := mk_tb (ti_7 (List.mem_of_getElem? (i := 52) rfl)) rfl
theorem qq_7_54 : Cond.instanceMethod yX12_openIn ∈ TB := mk_tb (ti_7 (List.mem_of_getElem? (i := 54) rfl)) rfl
theorem qs_5_4 : Cond.selects "WrongHoleModel" yX12_openIn yX12_openIn ∈ TB := mk_tb (ti_s (q := (yX12_openIn, 33)) (List.mem_append_right _ (List.mem_append_right _ (List.mem_append_right _ (List.mem_append_right _ (List.mem_append_right _ (List.mem_append_left _ (List.mem_of_getElem? (i := 4) rfl)))))))) rfl
theorem dX12_isLawful_20 : decode cX12_isLawful 20 = .ok (.aload_n 0, 1) := by decide +kernel
theorem dX12_isLawful_21 : decode cX12_isLawful 21 = .ok (.getfield 39, 3) := by decide +kernel
theorem dX12_isLawful_24 : decode cX12_isLawful 24 = .ok (.bipush 7, 2) := by decide +kernel
theorem dX12_isLawful_26 : decode cX12_isLawful 26 = .ok (.iaload, 1) := by decide +kernel
theorem dX12_isLawful_27 : decode cX12_isLawful 27 = .ok (.iand, 1) := by decide +kernel
theorem dX12_isLawful_28 : decode cX12_isLawful 28 = .ok (.ifCond .ne 7, 3) := by decide +kernel
theorem dX12_isLawful_31 : decode cX12_isLawful 31 = .ok (.iconst 1, 1) := by decide +kernel
theorem dX12_isLawful_32 : decode cX12_isLawful 32 = .ok (.goto 4, 3) := by decide +kernel
set_option maxHeartbeats 4000000 in
set_option maxRecDepth 100000 in
theorem c_M_isLawful (l : Launch) (D : va_G) (cs : Nat → ClassId) (m0 : Nat) (mtp : Nat) (sta : Int32) (sru : Int32) (msg : Nat) (mln : Nat) (mcl : Nat) (mcs : Nat) (mrd : Nat) (snx : Int32) (swr : Int32) (snu : Int32) (ste : Int32) (sma : Int32) (sde : Int32) (sli : Int32) (mop : Nat) (sod : Int32) (mst : Nat) (sto : Int32) (mwd : Nat) (msd : Nat) (sx_ : Int32) (mws : Nat) (sun : Int32) (mfr : Nat) (mqu : Nat) (miw : Nat) (sfi : Int32) (swa : Int32) (sdx : Int64) (mim : Nat) (mix : Nat) (mmd : Nat) (gsd : Nat → Int32) (a : Int32) (hsi : SI gsd) (r_a : Rg 0 65535 a) : Met l yX12_isLawful (Cond.code yX12_isLawful cX12_isLawful 2 (some .boolean) :: TB) (RM 2 0 0) (va_Pc [.ref m0, .int a] (PRR D cs [(m0, .inr (10, (.ref mtp :: .int sta :: .int sru :: .ref msg :: .ref mln :: .ref mcl :: .ref mcs :: .ref mrd :: .int snx :: .int swr :: .int snu :: .int ste :: .int sma :: .int sde :: .int sli :: .ref mop :: .int sod :: .ref mst :: .int sto :: .ref mwd :: .ref msd :: .int sx_ :: .ref mws :: .int sun :: .ref mfr :: .ref mqu :: .ref miw :: .int sfi :: .int swa :: .long sdx :: .ref mim :: .ref mix :: .ref mmd :: []))), (msd, .inl ((cs 0), 133, .inl gsd))])) (k2_QcV (.int (nI (lawF gsd (cN a))))) 0 0 (fun _ => False) := by
  refine MER (y := yX12_isLawful) (cc := cX12_isLawful) (maxL := 2) (ret := (some .boolean)) (d := 2) (D := D) (cs := cs) (ws := [(m0, .inr (10, (.ref mtp :: .int sta :: .int sru :: .ref msg :: .ref mln :: .ref mcl :: .ref mcs :: .ref mrd :: .int snx :: .int swr :: .int snu :: .int ste :: .int sma :: .int sde :: .int sli :: .ref mop :: .int sod :: .ref mst :: .int sto :: .ref mwd :: .ref msd :: .int sx_ :: .ref mws :: .int sun :: .ref mfr :: .ref mqu :: .ref miw :: .int sfi :: .int swa :: .long sdx :: .ref mim :: .ref mix :: .ref mmd :: []))), (msd, .inl ((cs 0), 133, .inl gsd))]) (av := [.ref m0, .int a]) (Qc := k2_QcV (.int (nI (lawF gsd (cN a))))) (by decide) (Nat.le_of_ble_eq_true rfl) ?_
  intro p e s m below meth c ls H hHe hx hb hr hml hown hts hlocks hP hK hN hl
  obtain ⟨locs, hlc⟩ : ∃ z : List Loc, z = [] := ⟨_, rfl⟩
  rw [← hlc]
  have hown : s.vm.findClass "WrongHoleModel" = some m.cls := hown
  have hT : ∀ w ∈ TB, w.before ([.ref m0, .int a] : List Value).toArray s = true := fun w h => hts w (List.mem_cons_of_mem _ h)
  have hl : lv_has ls 2 [(0, .ref m0), (1, .int a)] := hl
  have hP : va_P D vwCl [(m0, .inr (10, (.ref mtp :: .int sta :: .int sru :: .ref msg :: .ref mln :: .ref mcl :: .ref mcs :: .ref mrd :: .int snx :: .int swr :: .int snu :: .int ste :: .int sma :: .int sde :: .int sli :: .ref mop :: .int sod :: .ref mst :: .int sto :: .ref mwd :: .ref msd :: .int sx_ :: .ref mws :: .int sun :: .ref mfr :: .ref mqu :: .ref miw :: .int sfi :: .int swa :: .long sdx :: .ref mim :: .ref mix :: .ref mmd :: []))), (msd, .inl ((cs 0), 133, .inl gsd))] H := hP
  refine lv_aload_n hx hb dX12_isLawful_0 rfl (lv_at hl 0 rfl) ?_
  refine lv_iload_n hx hb dX12_isLawful_1 rfl (lv_at hl 1 rfl) ?_
  have hPc := va_P.sub (ws' := [(m0, .inr (10, (.ref mtp :: .int sta :: .int sru :: .ref msg :: .ref mln :: .ref mcl :: .ref mcs :: .ref mrd :: .int snx :: .int swr :: .int snu :: .int ste :: .int sma :: .int sde :: .int sli :: .ref mop :: .int sod :: .ref mst :: .int sto :: .ref mwd :: .ref msd :: .int sx_ :: .ref mws :: .int sun :: .ref mfr :: .ref mqu :: .ref miw :: .int sfi :: .int swa :: .long sdx :: .ref mim :: .ref mix :: .ref mmd :: []))), (msd, .inl ((cs 0), 133, .inl gsd))]) hP [0, 1] rfl
  refine cl_V (W.runV (As := [.int a]) (rest := []) ⟨hx, hb, hml, hown, hts⟩ (c_M_runIn l D cs m0 mtp sta sru msg mln mcl mcs mrd snx swr snu ste sma sde sli mop sod mst sto mwd msd sx_ mws sun mfr mqu miw sfi swa sdx mim mix mmd gsd a hsi r_a) ⟨callB_of 1 hts (gd_C qq_7_85) rfl rfl rfl (hT _ qq_1_9) (hT _ qq_7_82) (by decide +kernel) (rm_R rfl rfl), (hT _ qq_7_84), (hT _ qs_5_7)⟩ (pq_V hPc hK hN (ci := 10) (q0 := 0) rfl rfl) rfl rfl hl.1 rfl (lv_room (Nat.le_of_ble_eq_true rfl)) dX12_isLawful_2 ⟨Nat.le_of_ble_eq_true rfl, Nat.le_of_ble_eq_true rfl⟩) ?_
  refine lv_topi (fun x_1 e_2 => ?_)
  have r_3 : Rg 0 8 x_1 := Rg.of e_2 (run_rg (hsi) _)
  refine lv_aload_n hx hb dX12_isLawful_5 rfl (lv_at hl 0 rfl) ?_
  refine va_get (D := D) (ci := 10) (v := .ref msd) (C := "WrongHoleModel") (T := TX12) (N := 33) hx hb hts (iq_RX12 _) hown hK hP 0 rfl rfl 20 (by decide) (hT _ qq_5_172) (fun _ h9 => h9) rfl dX12_isLawful_6 ?_
  refine lv_bipush (v := 6) hx hb dX12_isLawful_9 (by decide) ?_
  have hi_4 : vp_in 6 133 := vi_c rfl
  refine va_iald hx hb hK hP 1 0 rfl rfl hi_4 dX12_isLawful_11 ?_
  refine lv_topi (fun x_5 e_6 => ?_)
  have r_7 : Rg 0 8 x_5 := Rg.of e_6 (hsi.a6)
  refine lv_icmp_gt (tgt := 35) hx hb dX12_isLawful_12 (by decide) (fun c_8 => ?_) (fun c_8 => ?_)
  · have r_9 : Rg 0 7 x_5 := Rg.lt_l c_8 r_7 r_3 (by decide)
    have r_10 : Rg 1 8 x_1 := Rg.lt_r c_8 r_7 r_3 (by decide)
    refine lv_iconst (v := 0) hx hb dX12_isLawful_35 (by decide) ?_
    exact W.zret (v := 0) (ty := .boolean) hx hb hr rfl (fun t9 ht9 hW9 => ⟨by rw [show (.int (nI (lawF gsd (cN a))) : Value) = .int 0 from (congrArg Value.int (show nI (lawF gsd (cN a)) = 0 from by unfold lawF; rw [if_pos (by rw [← e_2, show gsd 6 = x_5 from e_6.symm]; exact c_8)]; rfl))], ht9.trans hHe⟩) (fun _ h9 => by rw [hlc] at h9; exact absurd h9 List.not_mem_nil) dX12_isLawful_36
  · refine lv_aload_n hx hb dX12_isLawful_15 rfl (lv_at hl 0 rfl) ?_
    refine lv_iload_n hx hb dX12_isLawful_16 rfl (lv_at hl 1 rfl) ?_
    have hPc := va_P.sub (ws' := [(m0, .inr (10, (.ref mtp :: .int sta :: .int sru :: .ref msg :: .ref mln :: .ref mcl :: .ref mcs :: .ref mrd :: .int snx :: .int swr :: .int snu :: .int ste :: .int sma :: .int sde :: .int sli :: .ref mop :: .int sod :: .ref mst :: .int sto :: .ref mwd :: .ref msd :: .int sx_ :: .ref mws :: .int sun :: .ref mfr :: .ref mqu :: .ref miw :: .int sfi :: .int swa :: .long sdx :: .ref mim :: .ref mix :: .ref mmd :: []))), (msd, .inl ((cs 0), 133, .inl gsd))]) hP [0, 1] rfl
    refine cl_V (W.runV (As := [.int a]) (rest := []) ⟨hx, hb, hml, hown, hts⟩ (c_M_openIn l D cs m0 mtp sta sru msg mln mcl mcs mrd snx swr snu ste sma sde sli mop sod mst sto mwd msd sx_ mws sun mfr mqu miw sfi swa sdx mim mix mmd gsd a hsi r_a) ⟨callB_of 1 hts (gd_C qq_7_55) rfl rfl rfl (hT _ qq_1_9) (hT _ qq_7_52) (by decide +kernel) (rm_R rfl rfl), (hT _ qq_7_54), (hT _ qs_5_4)⟩ (pq_V hPc hK hN (ci := 10) (q0 := 0) rfl rfl) rfl rfl hl.1 rfl (lv_room (Nat.le_of_ble_eq_true rfl)) dX12_isLawful_17 ⟨Nat.le_of_ble_eq_true rfl, Nat.le_of_ble_eq_true rfl⟩) ?_
    refine lv_topi (fun x_22 e_23 => ?_)
    have r_24 : Rg 0 255 x_22 := Rg.of e_23 (op_rg (hsi) _)
    refine lv_aload_n hx hb dX12_isLawful_20 rfl (lv_at hl 0 rfl) ?_
    refine va_get (D := D) (ci := 10) (v := .ref msd) (C := "WrongHoleModel") (T := TX12) (N := 33) hx hb hts (iq_RX12 _) hown hK hP 0 rfl rfl 20 (by decide) (hT _ qq_5_172) (fun _ h9 => h9) rfl dX12_isLawful_21 ?_
    refine lv_bipush (v := 7) hx hb dX12_isLawful_24 (by decide) ?_
    have hi_25 : vp_in 7 133 := vi_c rfl
    refine va_iald hx hb hK hP 1 0 rfl rfl hi_25 dX12_isLawful_26 ?_
    refine lv_topi (fun x_26 e_27 => ?_)
    refine lv_iand hx hb dX12_isLawful_27 ?_
    refine lv_topi (fun x_28 e_29 => ?_)
    have r_30 : Rg 0 255 x_28 := Rg.andl e_29 r_24 (by decide)
    refine lv_if_ne (tgt := 35) hx hb dX12_isLawful_28 (by decide) (fun c_31 => ?_) (fun c_31 => ?_)
    · have r_32 : Rg 1 255 x_28 := Rg.ne c_31 r_30 (Rg.c (c := 0) (k := 0) rfl) (by decide)
      refine lv_iconst (v := 0) hx hb dX12_isLawful_35 (by decide) ?_
      exact W.zret (v := 0) (ty := .boolean) hx hb hr rfl (fun t9 ht9 hW9 => ⟨by rw [show (.int (nI (lawF gsd (cN a))) : Value) = .int 0 from (congrArg Value.int (show nI (lawF gsd (cN a)) = 0 from by unfold lawF; rw [if_neg (by rw [← e_2, show gsd 6 = x_5 from e_6.symm]; exact c_8), if_neg (fun h9 => c_31 ((show x_28 = ((((1 : Int32) <<< (gsd 0 &&& 31)) - 1) &&& (nI (cN a % 256) ^^^ (-1))) &&& gsd 7 from by rw [e_29, e_23, show gsd 7 = x_26 from e_27.symm]).trans h9))]; rfl))], ht9.trans hHe⟩) (fun _ h9 => by rw [hlc] at h9; exact absurd h9 List.not_mem_nil) dX12_isLawful_36
    · have r_33 : Rg 0 0 x_28 := Rg.eq_l c_31 r_30 (Rg.c (c := 0) (k := 0) rfl) (by decide)
      refine lv_iconst (v := 1) hx hb dX12_isLawful_31 (by decide) ?_
      refine lv_goto (tgt := 36) hx hb dX12_isLawful_32 (by decide) ?_
      exact W.zret (v := 1) (ty := .boolean) hx hb hr rfl (fun t9 ht9 hW9 => ⟨by rw [show (.int (nI (lawF gsd (cN a))) : Value) = .int 1 from (congrArg Value.int (show nI (lawF gsd (cN a)) = 1 from by unfold lawF; rw [if_neg (by rw [← e_2, show gsd 6 = x_5 from e_6.symm]; exact c_8), if_pos ((show x_28 = ((((1 : Int32) <<< (gsd 0 &&& 31)) - 1) &&& (nI (cN a % 256) ^^^ (-1))) &&& gsd 7 from by rw [e_29, e_23, show gsd 7 = x_26 from e_27.symm]).symm.trans c_31)]; rfl))], ht9.trans hHe⟩) (fun _ h9 => by rw [hlc] at h9; exact absurd h9 List.not_mem_nil) dX12_isLawful_36
theorem dX12_rightIn_0 : decode cX12_rightIn 0 = .ok (.iconst 0, 1) := by decide +kernel
theorem dX12_rightIn_1 : decode cX12_rightIn 1 = .ok (.istore_n 2, 1) := by decide +kernel
theorem dX12_rightIn_2 : decode cX12_rightIn 2 = .ok (.iconst 0, 1) := by decide +kernel
theorem dX12_rightIn_3 : decode cX12_rightIn 3 = .ok (.istore_n 3, 1) := by decide +kernel
theorem dX12_rightIn_4 : decode cX12_rightIn 4 = .ok (.iload_n 3, 1) := by decide +kernel
theorem dX12_rightIn_5 : decode cX12_rightIn 5 = .ok (.aload_n 0, 1) := by decide +kernel
theorem dX12_rightIn_6 : decode cX12_rightIn 6 = .ok (.getfield 39, 3) := by decide +kernel
theorem dX12_rightIn_9 : decode cX12_rightIn 9 = .ok (.iconst 0, 1) := by decide +kernel
theorem dX12_rightIn_10 : decode cX12_rightIn 10 = .ok (.iaload, 1) := by decide +kernel
theorem dX12_rightIn_11 : decode cX12_rightIn 11 = .ok (.if_icmp .ge 39, 3) := by decide +kernel
theorem dX12_rightIn_50 : decode cX12_rightIn 50 = .ok (.iload_n 2, 1) := by decide +kernel
theorem dX12_rightIn_51 : decode cX12_rightIn 51 = .ok (.ireturn, 1) := by decide +kernel
theorem dX12_rightIn_14 : decode cX12_rightIn 14 = .ok (.iload_n 2, 1) := by decide +kernel
theorem dX12_rightIn_15 : decode cX12_rightIn 15 = .ok (.iload_n 1, 1) := by decide +kernel
theorem dX12_rightIn_16 : decode cX12_rightIn 16 = .ok (.invokestatic 338, 3) := by decide +kernel
theorem dX12_rightIn_19 : decode cX12_rightIn 19 = .ok (.iload_n 3, 1) := by decide +kernel
theorem dX12_rightIn_20 : decode cX12_rightIn 20 = .ok (.invokestatic 332, 3) := by decide +kernel
theorem dX12_rightIn_23 : decode cX12_rightIn 23 = .ok (.ifCond .eq 18, 3) := by decide +kernel
theorem dX12_rightIn_42 : decode cX12_rightIn 42 = .ok (.ior, 1) := by decide +kernel
theorem dX12_rightIn_43 : decode cX12_rightIn 43 = .ok (.istore_n 2, 1) := by decide +kernel
theorem dX12_rightIn_44 : decode cX12_rightIn 44 = .ok (.iinc 3 1, 3) := by decide +kernel
theorem dX12_rightIn_47 : decode cX12_rightIn 47 = .ok (.goto (-43), 3) := by decide +kernel
theorem dX12_rightIn_41 : decode cX12_rightIn 41 = .ok (.iconst 0, 1) := by decide +kernel
theorem dX12_rightIn_26 : decode cX12_rightIn 26 = .ok (.iload_n 1, 1) := by decide +kernel
theorem dX12_rightIn_27 : decode cX12_rightIn 27 = .ok (.iload_n 3, 1) := by decide +kernel
theorem dX12_rightIn_28 : decode cX12_rightIn 28 = .ok (.invokestatic 347, 3) := by decide +kernel
theorem dX12_rightIn_31 : decode cX12_rightIn 31 = .ok (.iload_n 3, 1) := by decide +kernel
theorem dX12_rightIn_32 : decode cX12_rightIn 32 = .ok (.if_icmp .ne 9, 3) := by decide +kernel
theorem dX12_rightIn_35 : decode cX12_rightIn 35 = .ok (.iconst 1, 1) := by decide +kernel
theorem dX12_rightIn_36 : decode cX12_rightIn 36 = .ok (.iload_n 3, 1) := by decide +kernel
theorem dX12_rightIn_37 : decode cX12_rightIn 37 = .ok (.ishl, 1) := by decide +kernel
theorem dX12_rightIn_38 : decode cX12_rightIn 38 = .ok (.goto 4, 3) := by decide +kernel
set_option maxHeartbeats 4000000 in
set_option maxRecDepth 100000 in
theorem c_M_rightIn (l : Launch) (D : va_G) (cs : Nat → ClassId) (m0 : Nat) (mtp : Nat) (sta : Int32) (sru : Int32) (msg : Nat) (mln : Nat) (mcl : Nat) (mcs : Nat) (mrd : Nat) (snx : Int32) (swr : Int32) (snu : Int32) (ste : Int32) (sma : Int32) (sde : Int32) (sli : Int32) (mop : Nat) (sod : Int32) (mst : Nat) (sto : Int32) (mwd : Nat) (msd : Nat) (sx_ : Int32) (mws : Nat) (sun : Int32) (mfr : Nat) (mqu : Nat) (miw : Nat) (sfi : Int32) (swa : Int32) (sdx : Int64) (mim : Nat) (mix : Nat) (mmd : Nat) (gsd : Nat → Int32) (a : Int32) (hsi : SI gsd) (hbk : BK a) : Met l yX12_rightIn (Cond.code yX12_rightIn cX12_rightIn 4 (some .int) :: TB) (RM 3 0 0) (va_Pc [.ref m0, .int a] (PRR D cs [(m0, .inr (10, (.ref mtp :: .int sta :: .int sru :: .ref msg :: .ref mln :: .ref mcl :: .ref mcs :: .ref mrd :: .int snx :: .int swr :: .int snu :: .int ste :: .int sma :: .int sde :: .int sli :: .ref mop :: .int sod :: .ref mst :: .int sto :: .ref mwd :: .ref msd :: .int sx_ :: .ref mws :: .int sun :: .ref mfr :: .ref mqu :: .ref miw :: .int sfi :: .int swa :: .long sdx :: .ref mim :: .ref mix :: .ref mmd :: []))), (msd, .inl ((cs 0), 133, .inl gsd))])) (QP (fun v => ∃ x : Int32, v = .int x ∧ Rg 0 255 x)) 0 0 (fun _ => False) := by
  refine MER (y := yX12_rightIn) (cc := cX12_rightIn) (maxL := 4) (ret := (some .int)) (d := 3) (D := D) (cs := cs) (ws := [(m0, .inr (10, (.ref mtp :: .int sta :: .int sru :: .ref msg :: .ref mln :: .ref mcl :: .ref mcs :: .ref mrd :: .int snx :: .int swr :: .int snu :: .int ste :: .int sma :: .int sde :: .int sli :: .ref mop :: .int sod :: .ref mst :: .int sto :: .ref mwd :: .ref msd :: .int sx_ :: .ref mws :: .int sun :: .ref mfr :: .ref mqu :: .ref miw :: .int sfi :: .int swa :: .long sdx :: .ref mim :: .ref mix :: .ref mmd :: []))), (msd, .inl ((cs 0), 133, .inl gsd))]) (av := [.ref m0, .int a]) (Qc := QP (fun v => ∃ x : Int32, v = .int x ∧ Rg 0 255 x)) (by decide) (Nat.le_of_ble_eq_true rfl) ?_
  intro p e s m below meth c ls H hHe hx hb hr hml hown hts hlocks hP hK hN hl
  obtain ⟨locs, hlc⟩ : ∃ z : List Loc, z = [] := ⟨_, rfl⟩
  rw [← hlc]
  have hown : s.vm.findClass "WrongHoleModel" = some m.cls := hown
  have hT : ∀ w ∈ TB, w.before ([.ref m0, .int a] : List Value).toArray s = true := fun w h => hts w (List.mem_cons_of_mem _ h)
  have hl : lv_has ls 4 [(0, .ref m0), (1, .int a)] := hl
  have hP : va_P D vwCl [(m0, .inr (10, (.ref mtp :: .int sta :: .int sru :: .ref msg :: .ref mln :: .ref mcl :: .ref mcs :: .ref mrd :: .int snx :: .int swr :: .int snu :: .int ste :: .int sma :: .int sde :: .int sli :: .ref mop :: .int sod :: .ref mst :: .int sto :: .ref mwd :: .ref msd :: .int sx_ :: .ref mws :: .int sun :: .ref mfr :: .ref mqu :: .ref miw :: .int sfi :: .int swa :: .long sdx :: .ref mim :: .ref mix :: .ref mmd :: []))), (msd, .inl ((cs 0), 133, .inl gsd))] H := hP
  refine lv_iconst (v := 0) hx hb dX12_rightIn_0 (by decide) ?_
  refine lv_istore_n (lv' := [(2, .int 0), (0, .ref m0), (1, .int a)]) hx hb dX12_rightIn_1 rfl hl (by decide) rfl (fun ls hl => ?_)
  refine lv_iconst (v := 0) hx hb dX12_rightIn_2 (by decide) ?_
  refine lv_istore_n (lv' := [(3, .int 0), (2, .int 0), (0, .ref m0), (1, .int a)]) hx hb dX12_rightIn_3 rfl hl (by decide) rfl (fun ls hl => ?_)
  refine w_wh (σ := (Int32) × (Int32)) (fun x9 H locs ls => match x9 with | (v_57, v_58) => Rg 0 8 v_57 ∧ Rg 0 255 v_58 ∧ H = s.heap ∧ locs = [] ∧ va_P D vwCl [(m0, .inr (10, (.ref mtp :: .int sta :: .int sru :: .ref msg :: .ref mln :: .ref mcl :: .ref mcs :: .ref mrd :: .int snx :: .int swr :: .int snu :: .int ste :: .int sma :: .int sde :: .int sli :: .ref mop :: .int sod :: .ref mst :: .int sto :: .ref mwd :: .ref msd :: .int sx_ :: .ref mws :: .int sun :: .ref mfr :: .ref mqu :: .ref miw :: .int sfi :: .int swa :: .long sdx :: .ref mim :: .ref mix :: .ref mmd :: []))), (msd, .inl ((cs 0), 133, .inl gsd))] H ∧ lv_has ls 4 [(3, .int v_57), (2, .int v_58), (0, .ref m0), (1, .int a)]) (fun x9 => match x9 with | (v_57, v_58) => (8 - Int32.toInt v_57).toNat) 4 ?_ (0, 0) H locs ls ⟨(Rg.wk (lo2 := 0) (hi2 := 8) (Rg.c (c := 0) (k := 0) rfl) (by decide)), (Rg.wk (lo2 := 0) (hi2 := 255) (Rg.c (c := 0) (k := 0) rfl) (by decide)), hHe, hlc, hP, lv_sub hl [0, 1, 2, 3] rfl⟩
  rintro ⟨v_57, v_58⟩ H locs ls ⟨r_596, r_597, hHe, hlc, hP, hl⟩ ih_595
  refine lv_iload_n hx hb dX12_rightIn_4 rfl (lv_at hl 0 rfl) ?_
  refine lv_aload_n hx hb dX12_rightIn_5 rfl (lv_at hl 2 rfl) ?_
  refine va_get (D := D) (ci := 10) (v := .ref msd) (C := "WrongHoleModel") (T := TX12) (N := 33) hx hb hts (iq_RX12 _) hown hK hP 0 rfl rfl 20 (by decide) (hT _ qq_5_172) (fun _ h9 => h9) rfl dX12_rightIn_6 ?_
  refine lv_iconst (v := 0) hx hb dX12_rightIn_9 (by decide) ?_
  have hi_598 : vp_in 0 133 := vi_c rfl
  refine va_iald hx hb hK hP 1 0 rfl rfl hi_598 dX12_rightIn_10 ?_
  refine lv_topi (fun x_599 e_600 => ?_)
  have r_601 : Rg 0 8 x_599 := Rg.of e_600 (hsi.a0)
  refine lv_icmp_ge (tgt := 50) hx hb dX12_rightIn_11 (by decide) (fun c_602 => ?_) (fun c_602 => ?_)
  · refine lv_iload_n hx hb dX12_rightIn_50 rfl (lv_at hl 1 rfl) ?_
    exact W.iret (v := v_58) hx hb hr (fun t9 ht9 hW9 => ⟨⟨_, rfl, _, rfl, r_597⟩, ht9.trans hHe⟩) (fun _ h9 => by rw [hlc] at h9; exact absurd h9 List.not_mem_nil) dX12_rightIn_51
  · have r_603 : Rg 0 7 v_57 := Rg.lt_l (nle_lt c_602) r_596 r_601 (by decide)
    have r_604 : Rg 1 8 x_599 := Rg.lt_r (nle_lt c_602) r_596 r_601 (by decide)
    refine lv_iload_n hx hb dX12_rightIn_14 rfl (lv_at hl 1 rfl) ?_
    refine lv_iload_n hx hb dX12_rightIn_15 rfl (lv_at hl 3 rfl) ?_
    have hPc := va_P.sub (ws' := []) hP [] rfl
    refine cl_V (W.runS (As := [.int a]) (rest := [.int v_58]) ⟨hx, hb, hml, hown, hts⟩ (c_M_inOf l D cs a hbk.1) ⟨callB_of 1 hts (gd_C qq_7_58) rfl rfl rfl (hT _ qq_1_9) (hT _ qq_7_56) (by decide +kernel) (rm_R rfl rfl), (hT _ qq_7_57)⟩ (pq_S hPc hK hN) rfl rfl hl.1 rfl (lv_room (Nat.le_of_ble_eq_true rfl)) dX12_rightIn_16 ⟨Nat.le_of_ble_eq_true rfl, Nat.le_of_ble_eq_true rfl⟩) ?_
    refine lv_topi (fun x_635 e_636 => ?_)
    have r_637 : Rg 0 255 x_635 := Rg.of e_636 (rg_held _)
    refine lv_iload_n hx hb dX12_rightIn_19 rfl (lv_at hl 0 rfl) ?_
    have hPc := va_P.sub (ws' := []) hP [] rfl
    refine cl_V (W.runS (As := [.int x_635, .int v_57]) (rest := [.int v_58]) ⟨hx, hb, hml, hown, hts⟩ (c_M_isOf l D cs x_635 v_57 r_637 r_603) ⟨callB_of 2 hts (gd_C qq_7_72) rfl rfl rfl (hT _ qq_1_9) (hT _ qq_7_70) (by decide +kernel) (rm_R rfl rfl), (hT _ qq_7_71)⟩ (pq_S hPc hK hN) rfl rfl hl.1 rfl (lv_room (Nat.le_of_ble_eq_true rfl)) dX12_rightIn_20 ⟨Nat.le_of_ble_eq_true rfl, Nat.le_of_ble_eq_true rfl⟩) ?_
    refine lv_topi (fun x_638 e_639 => ?_)
    have r_640 : Rg 0 1 x_638 := Rg.of e_639 (bt_rg _ _)
    refine w_cut (σ := (Int32)) (fun (v_651 : Int32) H locs ls => Rg 0 128 v_651 ∧ H = s.heap ∧ locs = [] ∧ va_P D vwCl [(m0, .inr (10, (.ref mtp :: .int sta :: .int sru :: .ref msg :: .ref mln :: .ref mcl :: .ref mcs :: .ref mrd :: .int snx :: .int swr :: .int snu :: .int ste :: .int sma :: .int sde :: .int sli :: .ref mop :: .int sod :: .ref mst :: .int sto :: .ref mwd :: .ref msd :: .int sx_ :: .ref mws :: .int sun :: .ref mfr :: .ref mqu :: .ref miw :: .int sfi :: .int swa :: .long sdx :: .ref mim :: .ref mix :: .ref mmd :: []))), (msd, .inl ((cs 0), 133, .inl gsd))] H ∧ lv_has ls 4 [(3, .int v_57), (2, .int v_58), (0, .ref m0), (1, .int a)]) 42 (fun (v_651 : Int32) => [.int v_651, .int v_58]) ?_ (fun hj_652 => ?_)
    · rintro v_651 H locs ls ⟨r_653, hHe, hlc, hP, hl⟩
      refine lv_ior hx hb dX12_rightIn_42 ?_
      refine lv_topi (fun x_654 e_655 => ?_)
      have r_656 : Rg 0 255 x_654 := Rg.or (k := 8) e_655 r_597 r_653 (by decide) (by decide)
      refine lv_istore_n (lv' := [(2, .int x_654), (3, .int v_57), (0, .ref m0), (1, .int a)]) hx hb dX12_rightIn_43 rfl hl (by decide) rfl (fun ls hl => ?_)
      obtain ⟨x_657, e_658⟩ : ∃ z : Int32, z = v_57 + Int32.ofInt 1 := ⟨_, rfl⟩
      have r_659 : Rg 1 8 x_657 := Rg.add e_658 r_603 (Rg.c (c := Int32.ofInt 1) (k := 1) rfl) (by decide)
      refine lv_iinc (v := x_657) (lv' := [(3, .int x_657), (2, .int x_654), (0, .ref m0), (1, .int a)]) hx hb dX12_rightIn_44 hl (k := 1) rfl (e_658.symm) (by decide) rfl (fun ls hl => ?_)
      refine lv_goto (tgt := 4) hx hb dX12_rightIn_47 (by decide) ?_
      exact ih_595 (x_657, x_654) _ _ _ ⟨(Rg.wk (lo2 := 0) (hi2 := 8) r_659 (by decide)), r_656, hHe, hlc, hP, lv_sub hl [0, 1, 2, 3] rfl⟩ (ms_up e_658 r_603 (Rg.c (c := Int32.ofInt 1) (k := 1) rfl) (by decide))
    · refine lv_if_eq (tgt := 41) hx hb dX12_rightIn_23 (by decide) (fun c_641 => ?_) (fun c_641 => ?_)
      · have r_642 : Rg 0 0 x_638 := Rg.eq_l c_641 r_640 (Rg.c (c := 0) (k := 0) rfl) (by decide)
        refine lv_iconst (v := 0) hx hb dX12_rightIn_41 (by decide) ?_
        exact hj_652 0 _ _ _ ⟨(Rg.wk (lo2 := 0) (hi2 := 128) (Rg.c (c := 0) (k := 0) rfl) (by decide)), hHe, hlc, hP, lv_sub hl [0, 1, 2, 3] rfl⟩
      · have r_643 : Rg 1 1 x_638 := Rg.ne c_641 r_640 (Rg.c (c := 0) (k := 0) rfl) (by decide)
        refine lv_iload_n hx hb dX12_rightIn_26 rfl (lv_at hl 3 rfl) ?_
        refine lv_iload_n hx hb dX12_rightIn_27 rfl (lv_at hl 0 rfl) ?_
        have hPc := va_P.sub (ws' := []) hP [] rfl
        refine cl_V (W.runS (As := [.int a, .int v_57]) (rest := [.int v_58]) ⟨hx, hb, hml, hown, hts⟩ (c_M_placeIn l D cs a v_57 r_603 hbk (bz_1 (n := cN a % 256) (k := cN v_57) (show x_638 = nI (bt (cN a % 256) (cN v_57)) from by rw [e_639, c_held e_636]) c_641)) ⟨callB_of 2 hts (gd_C qq_7_75) rfl rfl rfl (hT _ qq_1_9) (hT _ qq_7_73) (by decide +kernel) (rm_R rfl rfl), (hT _ qq_7_74)⟩ (pq_S hPc hK hN) rfl rfl hl.1 rfl (lv_room (Nat.le_of_ble_eq_true rfl)) dX12_rightIn_28 ⟨Nat.le_of_ble_eq_true rfl, Nat.le_of_ble_eq_true rfl⟩) ?_
        refine lv_topi (fun x_660 e_661 => ?_)
        have r_662 : Rg 0 7 x_660 := Rg.of e_661 (pl_rg hbk r_603 (bz_1 (n := cN a % 256) (k := cN v_57) (show x_638 = nI (bt (cN a % 256) (cN v_57)) from by rw [e_639, c_held e_636]) c_641))
        refine lv_iload_n hx hb dX12_rightIn_31 rfl (lv_at hl 0 rfl) ?_
        refine lv_icmp_ne (tgt := 41) hx hb dX12_rightIn_32 (by decide) (fun c_663 => ?_) (fun c_663 => ?_)
        · refine lv_iconst (v := 0) hx hb dX12_rightIn_41 (by decide) ?_
          exact hj_652 0 _ _ _ ⟨(Rg.wk (lo2 := 0) (hi2 := 128) (Rg.c (c := 0) (k := 0) rfl) (by decide)), hHe, hlc, hP, lv_sub hl [0, 1, 2, 3] rfl⟩
        · refine lv_iconst (v := 1) hx hb dX12_rightIn_35 (by decide) ?_
          refine lv_iload_n hx hb dX12_rightIn_36 rfl (lv_at hl 0 rfl) ?_
          refine lv_ishl hx hb dX12_rightIn_37 ?_
          refine lv_topi (fun x_664 e_665 => ?_)
          have r_666 : Rg 0 128 x_664 := Rg.shl (ha := 1) (k := 7) e_665 (Rg.wk (Rg.c (c := 1) (k := 1) rfl) (by decide)) (Rg.wk r_603 (by decide)) (by decide) (by decide)
          refine lv_goto (tgt := 42) hx hb dX12_rightIn_38 (by decide) ?_
          exact hj_652 x_664 _ _ _ ⟨r_666, hHe, hlc, hP, lv_sub hl [0, 1, 2, 3] rfl⟩
theorem dX12_wrongIn_0 : decode cX12_wrongIn 0 = .ok (.iload_n 1, 1) := by decide +kernel
theorem dX12_wrongIn_1 : decode cX12_wrongIn 1 = .ok (.invokestatic 338, 3) := by decide +kernel
theorem dX12_wrongIn_4 : decode cX12_wrongIn 4 = .ok (.aload_n 0, 1) := by decide +kernel
theorem dX12_wrongIn_5 : decode cX12_wrongIn 5 = .ok (.iload_n 1, 1) := by decide +kernel
theorem dX12_wrongIn_6 : decode cX12_wrongIn 6 = .ok (.invokevirtual 356, 3) := by decide +kernel
theorem qq_7_69 : Cond.code yX12_rightIn cX12_rightIn 4 (some .int) ∈ TB := mk_tb (ti_7 (List.mem_of_getElem? (i := 69) rfl)) rfl
theorem qq_7_66 : Cond.methodLink "WrongHoleModel" 356 yX12_rightIn ∈ TB := mk_tb (ti_7 (List.mem_of_getElem? (i := 66) rfl)) rfl
theorem qq_7_68 : Cond.instanceMethod yX12_rightIn ∈ TB := mk_tb (ti_7 (List.mem_of_getElem? (i := 68) rfl)) rfl
theorem qs_5_6 : Cond.selects "WrongHoleModel" yX12_rightIn yX12_rightIn ∈ TB := mk_tb (ti_s (q := (yX12_rightIn, 33)) (List.mem_append_right _ (List.mem_append_right _ (List.mem_append_right _ (List.mem_append_right _ (List.mem_append_right _ (List.mem_append_left _ (List.mem_of_getElem? (i := 6) rfl)))))))) rfl
theorem dX12_wrongIn_9 : decode cX12_wrongIn 9 = .ok (.iconst (-1), 1) := by decide +kernel
theorem dX12_wrongIn_10 : decode cX12_wrongIn 10 = .ok (.ixor, 1) := by decide +kernel
theorem dX12_wrongIn_11 : decode cX12_wrongIn 11 = .ok (.iand, 1) := by decide +kernel
theorem dX12_wrongIn_12 : decode cX12_wrongIn 12 = .ok (.ireturn, 1) := by decide +kernel
set_option maxHeartbeats 4000000 in
set_option maxRecDepth 100000 in
theorem c_M_wrongIn (l : Launch) (D : va_G) (cs : Nat → ClassId) (m0 : Nat) (mtp : Nat) (sta : Int32) (sru : Int32) (msg : Nat) (mln : Nat) (mcl : Nat) (mcs : Nat) (mrd : Nat) (snx : Int32) (swr : Int32) (snu : Int32) (ste : Int32) (sma : Int32) (sde : Int32) (sli : Int32) (mop : Nat) (sod : Int32) (mst : Nat) (sto : Int32) (mwd : Nat) (msd : Nat) (sx_ : Int32) (mws : Nat) (sun : Int32) (mfr : Nat) (mqu : Nat) (miw : Nat) (sfi : Int32) (swa : Int32) (sdx : Int64) (mim : Nat) (mix : Nat) (mmd : Nat) (gsd : Nat → Int32) (a : Int32) (hsi : SI gsd) (hbk : BK a) : Met l yX12_wrongIn (Cond.code yX12_wrongIn cX12_wrongIn 2 (some .int) :: TB) (RM 4 0 0) (va_Pc [.ref m0, .int a] (PRR D cs [(m0, .inr (10, (.ref mtp :: .int sta :: .int sru :: .ref msg :: .ref mln :: .ref mcl :: .ref mcs :: .ref mrd :: .int snx :: .int swr :: .int snu :: .int ste :: .int sma :: .int sde :: .int sli :: .ref mop :: .int sod :: .ref mst :: .int sto :: .ref mwd :: .ref msd :: .int sx_ :: .ref mws :: .int sun :: .ref mfr :: .ref mqu :: .ref miw :: .int sfi :: .int swa :: .long sdx :: .ref mim :: .ref mix :: .ref mmd :: []))), (msd, .inl ((cs 0), 133, .inl gsd))])) (QP (fun v => ∃ x : Int32, v = .int x ∧ Rg 0 255 x)) 0 0 (fun _ => False) := by
  refine MER (y := yX12_wrongIn) (cc := cX12_wrongIn) (maxL := 2) (ret := (some .int)) (d := 4) (D := D) (cs := cs) (ws := [(m0, .inr (10, (.ref mtp :: .int sta :: .int sru :: .ref msg :: .ref mln :: .ref mcl :: .ref mcs :: .ref mrd :: .int snx :: .int swr :: .int snu :: .int ste :: .int sma :: .int sde :: .int sli :: .ref mop :: .int sod :: .ref mst :: .int sto :: .ref mwd :: .ref msd :: .int sx_ :: .ref mws :: .int sun :: .ref mfr :: .ref mqu :: .ref miw :: .int sfi :: .int swa :: .long sdx :: .ref mim :: .ref mix :: .ref mmd :: []))), (msd, .inl ((cs 0), 133, .inl gsd))]) (av := [.ref m0, .int a]) (Qc := QP (fun v => ∃ x : Int32, v = .int x ∧ Rg 0 255 x)) (by decide) (Nat.le_of_ble_eq_true rfl) ?_
  intro p e s m below meth c ls H hHe hx hb hr hml hown hts hlocks hP hK hN hl
  obtain ⟨locs, hlc⟩ : ∃ z : List Loc, z = [] := ⟨_, rfl⟩
  rw [← hlc]
  have hown : s.vm.findClass "WrongHoleModel" = some m.cls := hown
  have hT : ∀ w ∈ TB, w.before ([.ref m0, .int a] : List Value).toArray s = true := fun w h => hts w (List.mem_cons_of_mem _ h)
  have hl : lv_has ls 2 [(0, .ref m0), (1, .int a)] := hl
  have hP : va_P D vwCl [(m0, .inr (10, (.ref mtp :: .int sta :: .int sru :: .ref msg :: .ref mln :: .ref mcl :: .ref mcs :: .ref mrd :: .int snx :: .int swr :: .int snu :: .int ste :: .int sma :: .int sde :: .int sli :: .ref mop :: .int sod :: .ref mst :: .int sto :: .ref mwd :: .ref msd :: .int sx_ :: .ref mws :: .int sun :: .ref mfr :: .ref mqu :: .ref miw :: .int sfi :: .int swa :: .long sdx :: .ref mim :: .ref mix :: .ref mmd :: []))), (msd, .inl ((cs 0), 133, .inl gsd))] H := hP
  refine lv_iload_n hx hb dX12_wrongIn_0 rfl (lv_at hl 1 rfl) ?_
  have hPc := va_P.sub (ws' := []) hP [] rfl
  refine cl_V (W.runS (As := [.int a]) (rest := []) ⟨hx, hb, hml, hown, hts⟩ (c_M_inOf l D cs a hbk.1) ⟨callB_of 1 hts (gd_C qq_7_58) rfl rfl rfl (hT _ qq_1_9) (hT _ qq_7_56) (by decide +kernel) (rm_R rfl rfl), (hT _ qq_7_57)⟩ (pq_S hPc hK hN) rfl rfl hl.1 rfl (lv_room (Nat.le_of_ble_eq_true rfl)) dX12_wrongIn_1 ⟨Nat.le_of_ble_eq_true rfl, Nat.le_of_ble_eq_true rfl⟩) ?_
  refine lv_topi (fun x_1 e_2 => ?_)
  have r_3 : Rg 0 255 x_1 := Rg.of e_2 (rg_held _)
  refine lv_aload_n hx hb dX12_wrongIn_4 rfl (lv_at hl 0 rfl) ?_
  refine lv_iload_n hx hb dX12_wrongIn_5 rfl (lv_at hl 1 rfl) ?_
  have hPc := va_P.sub (ws' := [(m0, .inr (10, (.ref mtp :: .int sta :: .int sru :: .ref msg :: .ref mln :: .ref mcl :: .ref mcs :: .ref mrd :: .int snx :: .int swr :: .int snu :: .int ste :: .int sma :: .int sde :: .int sli :: .ref mop :: .int sod :: .ref mst :: .int sto :: .ref mwd :: .ref msd :: .int sx_ :: .ref mws :: .int sun :: .ref mfr :: .ref mqu :: .ref miw :: .int sfi :: .int swa :: .long sdx :: .ref mim :: .ref mix :: .ref mmd :: []))), (msd, .inl ((cs 0), 133, .inl gsd))]) hP [0, 1] rfl
  refine cl_P (W.runV (As := [.int a]) (rest := [.int x_1]) ⟨hx, hb, hml, hown, hts⟩ (c_M_rightIn l D cs m0 mtp sta sru msg mln mcl mcs mrd snx swr snu ste sma sde sli mop sod mst sto mwd msd sx_ mws sun mfr mqu miw sfi swa sdx mim mix mmd gsd a hsi hbk) ⟨callB_of 1 hts (gd_C qq_7_69) rfl rfl rfl (hT _ qq_1_9) (hT _ qq_7_66) (by decide +kernel) (rm_R rfl rfl), (hT _ qq_7_68), (hT _ qs_5_6)⟩ (pq_V hPc hK hN (ci := 10) (q0 := 0) rfl rfl) rfl rfl hl.1 rfl (lv_room (Nat.le_of_ble_eq_true rfl)) dX12_wrongIn_6 ⟨Nat.le_of_ble_eq_true rfl, Nat.le_of_ble_eq_true rfl⟩) (fun v9 hz_5 => ?_)
  obtain ⟨x_4, rfl, r_6⟩ := hz_5
  refine lv_iconst (v := (-1)) hx hb dX12_wrongIn_9 (by decide) ?_
  refine lv_ixor hx hb dX12_wrongIn_10 ?_
  refine lv_topi (fun x_7 e_8 => ?_)
  refine lv_iand hx hb dX12_wrongIn_11 ?_
  refine lv_topi (fun x_9 e_10 => ?_)
  have r_11 : Rg 0 255 x_9 := Rg.andl e_10 r_3 (by decide)
  exact W.iret (v := x_9) hx hb hr (fun t9 ht9 hW9 => ⟨⟨_, rfl, _, rfl, r_11⟩, ht9.trans hHe⟩) (fun _ h9 => by rw [hlc] at h9; exact absurd h9 List.not_mem_nil) dX12_wrongIn_12
theorem dX12_goal_0 : decode cX12_goal 0 = .ok (.iconst 0, 1) := by decide +kernel
theorem dX12_goal_1 : decode cX12_goal 1 = .ok (.istore_n 1, 1) := by decide +kernel
theorem dX12_goal_2 : decode cX12_goal 2 = .ok (.iconst 0, 1) := by decide +kernel
theorem dX12_goal_3 : decode cX12_goal 3 = .ok (.istore_n 2, 1) := by decide +kernel
theorem dX12_goal_4 : decode cX12_goal 4 = .ok (.iload_n 2, 1) := by decide +kernel
theorem dX12_goal_5 : decode cX12_goal 5 = .ok (.aload_n 0, 1) := by decide +kernel
theorem dX12_goal_6 : decode cX12_goal 6 = .ok (.getfield 39, 3) := by decide +kernel
theorem dX12_goal_9 : decode cX12_goal 9 = .ok (.iconst 0, 1) := by decide +kernel
theorem dX12_goal_10 : decode cX12_goal 10 = .ok (.iaload, 1) := by decide +kernel
theorem dX12_goal_11 : decode cX12_goal 11 = .ok (.if_icmp .ge 27, 3) := by decide +kernel
theorem dX12_goal_38 : decode cX12_goal 38 = .ok (.iload_n 1, 1) := by decide +kernel
theorem dX12_goal_39 : decode cX12_goal 39 = .ok (.ireturn, 1) := by decide +kernel
theorem dX12_goal_14 : decode cX12_goal 14 = .ok (.iload_n 1, 1) := by decide +kernel
theorem dX12_goal_15 : decode cX12_goal 15 = .ok (.aload_n 0, 1) := by decide +kernel
theorem dX12_goal_16 : decode cX12_goal 16 = .ok (.iload_n 2, 1) := by decide +kernel
theorem dX12_goal_17 : decode cX12_goal 17 = .ok (.invokevirtual 359, 3) := by decide +kernel
theorem qq_7_21 : Cond.code yX12_canBeRight cX12_canBeRight 2 (some .boolean) ∈ TB := mk_tb (ti_7 (List.mem_of_getElem? (i := 21) rfl)) rfl
theorem qq_7_18 : Cond.methodLink "WrongHoleModel" 359 yX12_canBeRight ∈ TB := mk_tb (ti_7 (List.mem_of_getElem? (i := 18) rfl)) rfl
theorem qq_7_20 : Cond.instanceMethod yX12_canBeRight ∈ TB := mk_tb (ti_7 (List.mem_of_getElem? (i := 20) rfl)) rfl
theorem qs_4_14 : Cond.selects "WrongHoleModel" yX12_canBeRight yX12_canBeRight ∈ TB := mk_tb (ti_s (q := (yX12_canBeRight, 33)) (List.mem_append_right _ (List.mem_append_right _ (List.mem_append_right _ (List.mem_append_right _ (List.mem_append_left _ (List.mem_of_getElem? (i := 14) rfl))))))) rfl
theorem dX12_goal_20 : decode cX12_goal 20 = .ok (.ifCond .eq 9, 3) := by decide +kernel
theorem dX12_goal_30 : decode cX12_goal 30 = .ok (.ior, 1) := by decide +kernel
theorem dX12_goal_31 : decode cX12_goal 31 = .ok (.istore_n 1, 1) := by decide +kernel
theorem dX12_goal_32 : decode cX12_goal 32 = .ok (.iinc 2 1, 3) := by decide +kernel
theorem dX12_goal_35 : decode cX12_goal 35 = .ok (.goto (-31), 3) := by decide +kernel
theorem dX12_goal_29 : decode cX12_goal 29 = .ok (.iconst 0, 1) := by decide +kernel
theorem dX12_goal_23 : decode cX12_goal 23 = .ok (.iconst 1, 1) := by decide +kernel
theorem dX12_goal_24 : decode cX12_goal 24 = .ok (.iload_n 2, 1) := by decide +kernel
theorem dX12_goal_25 : decode cX12_goal 25 = .ok (.ishl, 1) := by decide +kernel
theorem dX12_goal_26 : decode cX12_goal 26 = .ok (.goto 4, 3) := by decide +kernel
set_option maxHeartbeats 4000000 in
set_option maxRecDepth 100000 in
theorem c_M_goal (l : Launch) (D : va_G) (cs : Nat → ClassId) (m0 : Nat) (mtp : Nat) (sta : Int32) (sru : Int32) (msg : Nat) (mln : Nat) (mcl : Nat) (mcs : Nat) (mrd : Nat) (snx : Int32) (swr : Int32) (snu : Int32) (ste : Int32) (sma : Int32) (sde : Int32) (sli : Int32) (mop : Nat) (sod : Int32) (mst : Nat) (sto : Int32) (mwd : Nat) (msd : Nat) (sx_ : Int32) (mws : Nat) (sun : Int32) (mfr : Nat) (mqu : Nat) (miw : Nat) (sfi : Int32) (swa : Int32) (sdx : Int64) (mim : Nat) (mix : Nat) (mmd : Nat) (gsd : Nat → Int32) (hsi : SI gsd) : Met l yX12_goal (Cond.code yX12_goal cX12_goal 3 (some .int) :: TB) (RM 3 0 0) (va_Pc [.ref m0] (PRR D cs [(m0, .inr (10, (.ref mtp :: .int sta :: .int sru :: .ref msg :: .ref mln :: .ref mcl :: .ref mcs :: .ref mrd :: .int snx :: .int swr :: .int snu :: .int ste :: .int sma :: .int sde :: .int sli :: .ref mop :: .int sod :: .ref mst :: .int sto :: .ref mwd :: .ref msd :: .int sx_ :: .ref mws :: .int sun :: .ref mfr :: .ref mqu :: .ref miw :: .int sfi :: .int swa :: .long sdx :: .ref mim :: .ref mix :: .ref mmd :: []))), (msd, .inl ((cs 0), 133, .inl gsd))])) (QP (fun v => ∃ x : Int32, v = .int x ∧ Rg 0 255 x)) 0 0 (fun _ => False) := by
  refine MER (y := yX12_goal) (cc := cX12_goal) (maxL := 3) (ret := (some .int)) (d := 3) (D := D) (cs := cs) (ws := [(m0, .inr (10, (.ref mtp :: .int sta :: .int sru :: .ref msg :: .ref mln :: .ref mcl :: .ref mcs :: .ref mrd :: .int snx :: .int swr :: .int snu :: .int ste :: .int sma :: .int sde :: .int sli :: .ref mop :: .int sod :: .ref mst :: .int sto :: .ref mwd :: .ref msd :: .int sx_ :: .ref mws :: .int sun :: .ref mfr :: .ref mqu :: .ref miw :: .int sfi :: .int swa :: .long sdx :: .ref mim :: .ref mix :: .ref mmd :: []))), (msd, .inl ((cs 0), 133, .inl gsd))]) (av := [.ref m0]) (Qc := QP (fun v => ∃ x : Int32, v = .int x ∧ Rg 0 255 x)) (by decide) (Nat.le_of_ble_eq_true rfl) ?_
  intro p e s m below meth c ls H hHe hx hb hr hml hown hts hlocks hP hK hN hl
  obtain ⟨locs, hlc⟩ : ∃ z : List Loc, z = [] := ⟨_, rfl⟩
  rw [← hlc]
  have hown : s.vm.findClass "WrongHoleModel" = some m.cls := hown
  have hT : ∀ w ∈ TB, w.before ([.ref m0] : List Value).toArray s = true := fun w h => hts w (List.mem_cons_of_mem _ h)
  have hl : lv_has ls 3 [(0, .ref m0)] := hl
  have hP : va_P D vwCl [(m0, .inr (10, (.ref mtp :: .int sta :: .int sru :: .ref msg :: .ref mln :: .ref mcl :: .ref mcs :: .ref mrd :: .int snx :: .int swr :: .int snu :: .int ste :: .int sma :: .int sde :: .int sli :: .ref mop :: .int sod :: .ref mst :: .int sto :: .ref mwd :: .ref msd :: .int sx_ :: .ref mws :: .int sun :: .ref mfr :: .ref mqu :: .ref miw :: .int sfi :: .int swa :: .long sdx :: .ref mim :: .ref mix :: .ref mmd :: []))), (msd, .inl ((cs 0), 133, .inl gsd))] H := hP
  refine lv_iconst (v := 0) hx hb dX12_goal_0 (by decide) ?_
  refine lv_istore_n (lv' := [(1, .int 0), (0, .ref m0)]) hx hb dX12_goal_1 rfl hl (by decide) rfl (fun ls hl => ?_)
  refine lv_iconst (v := 0) hx hb dX12_goal_2 (by decide) ?_
  refine lv_istore_n (lv' := [(2, .int 0), (1, .int 0), (0, .ref m0)]) hx hb dX12_goal_3 rfl hl (by decide) rfl (fun ls hl => ?_)
  refine w_wh (σ := (Int32) × (Int32)) (fun x9 H locs ls => match x9 with | (v_27, v_28) => Rg 0 8 v_27 ∧ Rg 0 255 v_28 ∧ H = s.heap ∧ locs = [] ∧ va_P D vwCl [(m0, .inr (10, (.ref mtp :: .int sta :: .int sru :: .ref msg :: .ref mln :: .ref mcl :: .ref mcs :: .ref mrd :: .int snx :: .int swr :: .int snu :: .int ste :: .int sma :: .int sde :: .int sli :: .ref mop :: .int sod :: .ref mst :: .int sto :: .ref mwd :: .ref msd :: .int sx_ :: .ref mws :: .int sun :: .ref mfr :: .ref mqu :: .ref miw :: .int sfi :: .int swa :: .long sdx :: .ref mim :: .ref mix :: .ref mmd :: []))), (msd, .inl ((cs 0), 133, .inl gsd))] H ∧ lv_has ls 3 [(2, .int v_27), (1, .int v_28), (0, .ref m0)]) (fun x9 => match x9 with | (v_27, v_28) => (8 - Int32.toInt v_27).toNat) 4 ?_ (0, 0) H locs ls ⟨(Rg.wk (lo2 := 0) (hi2 := 8) (Rg.c (c := 0) (k := 0) rfl) (by decide)), (Rg.wk (lo2 := 0) (hi2 := 255) (Rg.c (c := 0) (k := 0) rfl) (by decide)), hHe, hlc, hP, lv_sub hl [0, 1, 2] rfl⟩
  rintro ⟨v_27, v_28⟩ H locs ls ⟨r_382, r_383, hHe, hlc, hP, hl⟩ ih_381
  refine lv_iload_n hx hb dX12_goal_4 rfl (lv_at hl 0 rfl) ?_
  refine lv_aload_n hx hb dX12_goal_5 rfl (lv_at hl 2 rfl) ?_
  refine va_get (D := D) (ci := 10) (v := .ref msd) (C := "WrongHoleModel") (T := TX12) (N := 33) hx hb hts (iq_RX12 _) hown hK hP 0 rfl rfl 20 (by decide) (hT _ qq_5_172) (fun _ h9 => h9) rfl dX12_goal_6 ?_
  refine lv_iconst (v := 0) hx hb dX12_goal_9 (by decide) ?_
  have hi_384 : vp_in 0 133 := vi_c rfl
  refine va_iald hx hb hK hP 1 0 rfl rfl hi_384 dX12_goal_10 ?_
  refine lv_topi (fun x_385 e_386 => ?_)
  have r_387 : Rg 0 8 x_385 := Rg.of e_386 (hsi.a0)
  refine lv_icmp_ge (tgt := 38) hx hb dX12_goal_11 (by decide) (fun c_388 => ?_) (fun c_388 => ?_)
  · refine lv_iload_n hx hb dX12_goal_38 rfl (lv_at hl 1 rfl) ?_
    exact W.iret (v := v_28) hx hb hr (fun t9 ht9 hW9 => ⟨⟨_, rfl, _, rfl, r_383⟩, ht9.trans hHe⟩) (fun _ h9 => by rw [hlc] at h9; exact absurd h9 List.not_mem_nil) dX12_goal_39
  · have r_389 : Rg 0 7 v_27 := Rg.lt_l (nle_lt c_388) r_382 r_387 (by decide)
    have r_390 : Rg 1 8 x_385 := Rg.lt_r (nle_lt c_388) r_382 r_387 (by decide)
    refine lv_iload_n hx hb dX12_goal_14 rfl (lv_at hl 1 rfl) ?_
    refine lv_aload_n hx hb dX12_goal_15 rfl (lv_at hl 2 rfl) ?_
    refine lv_iload_n hx hb dX12_goal_16 rfl (lv_at hl 0 rfl) ?_
    have hPc := va_P.sub (ws' := [(m0, .inr (10, (.ref mtp :: .int sta :: .int sru :: .ref msg :: .ref mln :: .ref mcl :: .ref mcs :: .ref mrd :: .int snx :: .int swr :: .int snu :: .int ste :: .int sma :: .int sde :: .int sli :: .ref mop :: .int sod :: .ref mst :: .int sto :: .ref mwd :: .ref msd :: .int sx_ :: .ref mws :: .int sun :: .ref mfr :: .ref mqu :: .ref miw :: .int sfi :: .int swa :: .long sdx :: .ref mim :: .ref mix :: .ref mmd :: []))), (msd, .inl ((cs 0), 133, .inl gsd))]) hP [0, 1] rfl
    refine cl_P (W.runV (As := [.int v_27]) (rest := [.int v_28]) ⟨hx, hb, hml, hown, hts⟩ (c_M_canBeRight l D cs m0 mtp sta sru msg mln mcl mcs mrd snx swr snu ste sma sde sli mop sod mst sto mwd msd sx_ mws sun mfr mqu miw sfi swa sdx mim mix mmd gsd v_27 hsi r_389) ⟨callB_of 1 hts (gd_C qq_7_21) rfl rfl rfl (hT _ qq_1_9) (hT _ qq_7_18) (by decide +kernel) (rm_R rfl rfl), (hT _ qq_7_20), (hT _ qs_4_14)⟩ (pq_V hPc hK hN (ci := 10) (q0 := 0) rfl rfl) rfl rfl hl.1 rfl (lv_room (Nat.le_of_ble_eq_true rfl)) dX12_goal_17 ⟨Nat.le_of_ble_eq_true rfl, Nat.le_of_ble_eq_true rfl⟩) (fun v9 hz_411 => ?_)
    obtain ⟨x_410, rfl, r_412⟩ := hz_411
    refine w_cut (σ := (Int32)) (fun (v_419 : Int32) H locs ls => Rg 0 128 v_419 ∧ H = s.heap ∧ locs = [] ∧ va_P D vwCl [(m0, .inr (10, (.ref mtp :: .int sta :: .int sru :: .ref msg :: .ref mln :: .ref mcl :: .ref mcs :: .ref mrd :: .int snx :: .int swr :: .int snu :: .int ste :: .int sma :: .int sde :: .int sli :: .ref mop :: .int sod :: .ref mst :: .int sto :: .ref mwd :: .ref msd :: .int sx_ :: .ref mws :: .int sun :: .ref mfr :: .ref mqu :: .ref miw :: .int sfi :: .int swa :: .long sdx :: .ref mim :: .ref mix :: .ref mmd :: []))), (msd, .inl ((cs 0), 133, .inl gsd))] H ∧ lv_has ls 3 [(2, .int v_27), (1, .int v_28), (0, .ref m0)]) 30 (fun (v_419 : Int32) => [.int v_419, .int v_28]) ?_ (fun hj_420 => ?_)
    · rintro v_419 H locs ls ⟨r_421, hHe, hlc, hP, hl⟩
      refine lv_ior hx hb dX12_goal_30 ?_
      refine lv_topi (fun x_422 e_423 => ?_)
      have r_424 : Rg 0 255 x_422 := Rg.or (k := 8) e_423 r_383 r_421 (by decide) (by decide)
      refine lv_istore_n (lv' := [(1, .int x_422), (2, .int v_27), (0, .ref m0)]) hx hb dX12_goal_31 rfl hl (by decide) rfl (fun ls hl => ?_)
      obtain ⟨x_425, e_426⟩ : ∃ z : Int32, z = v_27 + Int32.ofInt 1 := ⟨_, rfl⟩
      have r_427 : Rg 1 8 x_425 := Rg.add e_426 r_389 (Rg.c (c := Int32.ofInt 1) (k := 1) rfl) (by decide)
      refine lv_iinc (v := x_425) (lv' := [(2, .int x_425), (1, .int x_422), (0, .ref m0)]) hx hb dX12_goal_32 hl (k := 1) rfl (e_426.symm) (by decide) rfl (fun ls hl => ?_)
      refine lv_goto (tgt := 4) hx hb dX12_goal_35 (by decide) ?_
      exact ih_381 (x_425, x_422) _ _ _ ⟨(Rg.wk (lo2 := 0) (hi2 := 8) r_427 (by decide)), r_424, hHe, hlc, hP, lv_sub hl [0, 1, 2] rfl⟩ (ms_up e_426 r_389 (Rg.c (c := Int32.ofInt 1) (k := 1) rfl) (by decide))
    · refine lv_if_eq (tgt := 29) hx hb dX12_goal_20 (by decide) (fun c_413 => ?_) (fun c_413 => ?_)
      · have r_414 : Rg 0 0 x_410 := Rg.eq_l c_413 r_412 (Rg.c (c := 0) (k := 0) rfl) (by decide)
        refine lv_iconst (v := 0) hx hb dX12_goal_29 (by decide) ?_
        exact hj_420 0 _ _ _ ⟨(Rg.wk (lo2 := 0) (hi2 := 128) (Rg.c (c := 0) (k := 0) rfl) (by decide)), hHe, hlc, hP, lv_sub hl [0, 1, 2] rfl⟩
      · have r_415 : Rg 1 1 x_410 := Rg.ne c_413 r_412 (Rg.c (c := 0) (k := 0) rfl) (by decide)
        refine lv_iconst (v := 1) hx hb dX12_goal_23 (by decide) ?_
        refine lv_iload_n hx hb dX12_goal_24 rfl (lv_at hl 0 rfl) ?_
        refine lv_ishl hx hb dX12_goal_25 ?_
        refine lv_topi (fun x_428 e_429 => ?_)
        have r_430 : Rg 0 128 x_428 := Rg.shl (ha := 1) (k := 7) e_429 (Rg.wk (Rg.c (c := 1) (k := 1) rfl) (by decide)) (Rg.wk r_389 (by decide)) (by decide) (by decide)
        refine lv_goto (tgt := 30) hx hb dX12_goal_26 (by decide) ?_
        exact hj_420 x_428 _ _ _ ⟨r_430, hHe, hlc, hP, lv_sub hl [0, 1, 2] rfl⟩
theorem dX12_isGoal_0 : decode cX12_isGoal 0 = .ok (.aload_n 0, 1) := by decide +kernel
theorem dX12_isGoal_1 : decode cX12_isGoal 1 = .ok (.invokevirtual 362, 3) := by decide +kernel
theorem qq_7_97 : Cond.code yX12_goal cX12_goal 3 (some .int) ∈ TB := mk_tb (ti_7 (List.mem_of_getElem? (i := 97) rfl)) rfl
theorem qq_7_94 : Cond.methodLink "WrongHoleModel" 362 yX12_goal ∈ TB := mk_tb (ti_7 (List.mem_of_getElem? (i := 94) rfl)) rfl
theorem qq_7_96 : Cond.instanceMethod yX12_goal ∈ TB := mk_tb (ti_7 (List.mem_of_getElem? (i := 96) rfl)) rfl
theorem qs_5_10 : Cond.selects "WrongHoleModel" yX12_goal yX12_goal ∈ TB := mk_tb (ti_s (q := (yX12_goal, 33)) (List.mem_append_right _ (List.mem_append_right _ (List.mem_append_right _ (List.mem_append_right _ (List.mem_append_right _ (List.mem_append_left _ (List.mem_of_getElem? (i := 10) rfl)))))))) rfl
theorem dX12_isGoal_4 : decode cX12_isGoal 4 = .ok (.aload_n 0, 1) := by decide +kernel
theorem dX12_isGoal_5 : decode cX12_isGoal 5 = .ok (.iload_n 1, 1) := by decide +kernel
theorem dX12_isGoal_6 : decode cX12_isGoal 6 = .ok (.invokevirtual 356, 3) := by decide +kernel
theorem dX12_isGoal_9 : decode cX12_isGoal 9 = .ok (.iconst (-1), 1) := by decide +kernel
theorem dX12_isGoal_10 : decode cX12_isGoal 10 = .ok (.ixor, 1) := by decide +kernel
theorem dX12_isGoal_11 : decode cX12_isGoal 11 = .ok (.iand, 1) := by decide +kernel
theorem dX12_isGoal_12 : decode cX12_isGoal 12 = .ok (.ifCond .ne 7, 3) := by decide +kernel
theorem dX12_isGoal_19 : decode cX12_isGoal 19 = .ok (.iconst 0, 1) := by decide +kernel
theorem dX12_isGoal_20 : decode cX12_isGoal 20 = .ok (.ireturn, 1) := by decide +kernel
theorem dX12_isGoal_15 : decode cX12_isGoal 15 = .ok (.iconst 1, 1) := by decide +kernel
theorem dX12_isGoal_16 : decode cX12_isGoal 16 = .ok (.goto 4, 3) := by decide +kernel
set_option maxHeartbeats 4000000 in
set_option maxRecDepth 100000 in
theorem c_M_isGoal (l : Launch) (D : va_G) (cs : Nat → ClassId) (m0 : Nat) (mtp : Nat) (sta : Int32) (sru : Int32) (msg : Nat) (mln : Nat) (mcl : Nat) (mcs : Nat) (mrd : Nat) (snx : Int32) (swr : Int32) (snu : Int32) (ste : Int32) (sma : Int32) (sde : Int32) (sli : Int32) (mop : Nat) (sod : Int32) (mst : Nat) (sto : Int32) (mwd : Nat) (msd : Nat) (sx_ : Int32) (mws : Nat) (sun : Int32) (mfr : Nat) (mqu : Nat) (miw : Nat) (sfi : Int32) (swa : Int32) (sdx : Int64) (mim : Nat) (mix : Nat) (mmd : Nat) (gsd : Nat → Int32) (a : Int32) (hsi : SI gsd) (hbk : BK a) : Met l yX12_isGoal (Cond.code yX12_isGoal cX12_isGoal 2 (some .boolean) :: TB) (RM 4 0 0) (va_Pc [.ref m0, .int a] (PRR D cs [(m0, .inr (10, (.ref mtp :: .int sta :: .int sru :: .ref msg :: .ref mln :: .ref mcl :: .ref mcs :: .ref mrd :: .int snx :: .int swr :: .int snu :: .int ste :: .int sma :: .int sde :: .int sli :: .ref mop :: .int sod :: .ref mst :: .int sto :: .ref mwd :: .ref msd :: .int sx_ :: .ref mws :: .int sun :: .ref mfr :: .ref mqu :: .ref miw :: .int sfi :: .int swa :: .long sdx :: .ref mim :: .ref mix :: .ref mmd :: []))), (msd, .inl ((cs 0), 133, .inl gsd))])) (QP (fun v => ∃ x : Int32, v = .int x ∧ Rg 0 1 x)) 0 0 (fun _ => False) := by
  refine MER (y := yX12_isGoal) (cc := cX12_isGoal) (maxL := 2) (ret := (some .boolean)) (d := 4) (D := D) (cs := cs) (ws := [(m0, .inr (10, (.ref mtp :: .int sta :: .int sru :: .ref msg :: .ref mln :: .ref mcl :: .ref mcs :: .ref mrd :: .int snx :: .int swr :: .int snu :: .int ste :: .int sma :: .int sde :: .int sli :: .ref mop :: .int sod :: .ref mst :: .int sto :: .ref mwd :: .ref msd :: .int sx_ :: .ref mws :: .int sun :: .ref mfr :: .ref mqu :: .ref miw :: .int sfi :: .int swa :: .long sdx :: .ref mim :: .ref mix :: .ref mmd :: []))), (msd, .inl ((cs 0), 133, .inl gsd))]) (av := [.ref m0, .int a]) (Qc := QP (fun v => ∃ x : Int32, v = .int x ∧ Rg 0 1 x)) (by decide) (Nat.le_of_ble_eq_true rfl) ?_
  intro p e s m below meth c ls H hHe hx hb hr hml hown hts hlocks hP hK hN hl
  obtain ⟨locs, hlc⟩ : ∃ z : List Loc, z = [] := ⟨_, rfl⟩
  rw [← hlc]
  have hown : s.vm.findClass "WrongHoleModel" = some m.cls := hown
  have hT : ∀ w ∈ TB, w.before ([.ref m0, .int a] : List Value).toArray s = true := fun w h => hts w (List.mem_cons_of_mem _ h)
  have hl : lv_has ls 2 [(0, .ref m0), (1, .int a)] := hl
  have hP : va_P D vwCl [(m0, .inr (10, (.ref mtp :: .int sta :: .int sru :: .ref msg :: .ref mln :: .ref mcl :: .ref mcs :: .ref mrd :: .int snx :: .int swr :: .int snu :: .int ste :: .int sma :: .int sde :: .int sli :: .ref mop :: .int sod :: .ref mst :: .int sto :: .ref mwd :: .ref msd :: .int sx_ :: .ref mws :: .int sun :: .ref mfr :: .ref mqu :: .ref miw :: .int sfi :: .int swa :: .long sdx :: .ref mim :: .ref mix :: .ref mmd :: []))), (msd, .inl ((cs 0), 133, .inl gsd))] H := hP
  refine lv_aload_n hx hb dX12_isGoal_0 rfl (lv_at hl 0 rfl) ?_
  have hPc := va_P.sub (ws' := [(m0, .inr (10, (.ref mtp :: .int sta :: .int sru :: .ref msg :: .ref mln :: .ref mcl :: .ref mcs :: .ref mrd :: .int snx :: .int swr :: .int snu :: .int ste :: .int sma :: .int sde :: .int sli :: .ref mop :: .int sod :: .ref mst :: .int sto :: .ref mwd :: .ref msd :: .int sx_ :: .ref mws :: .int sun :: .ref mfr :: .ref mqu :: .ref miw :: .int sfi :: .int swa :: .long sdx :: .ref mim :: .ref mix :: .ref mmd :: []))), (msd, .inl ((cs 0), 133, .inl gsd))]) hP [0, 1] rfl
  refine cl_P (W.runV (As := []) (rest := []) ⟨hx, hb, hml, hown, hts⟩ (c_M_goal l D cs m0 mtp sta sru msg mln mcl mcs mrd snx swr snu ste sma sde sli mop sod mst sto mwd msd sx_ mws sun mfr mqu miw sfi swa sdx mim mix mmd gsd hsi) ⟨callB_of 0 hts (gd_C qq_7_97) rfl rfl rfl (hT _ qq_1_9) (hT _ qq_7_94) (by decide +kernel) (rm_R rfl rfl), (hT _ qq_7_96), (hT _ qs_5_10)⟩ (pq_V hPc hK hN (ci := 10) (q0 := 0) rfl rfl) rfl rfl hl.1 rfl (lv_room (Nat.le_of_ble_eq_true rfl)) dX12_isGoal_1 ⟨Nat.le_of_ble_eq_true rfl, Nat.le_of_ble_eq_true rfl⟩) (fun v9 hz_2 => ?_)
  obtain ⟨x_1, rfl, r_3⟩ := hz_2
  refine lv_aload_n hx hb dX12_isGoal_4 rfl (lv_at hl 0 rfl) ?_
  refine lv_iload_n hx hb dX12_isGoal_5 rfl (lv_at hl 1 rfl) ?_
  have hPc := va_P.sub (ws' := [(m0, .inr (10, (.ref mtp :: .int sta :: .int sru :: .ref msg :: .ref mln :: .ref mcl :: .ref mcs :: .ref mrd :: .int snx :: .int swr :: .int snu :: .int ste :: .int sma :: .int sde :: .int sli :: .ref mop :: .int sod :: .ref mst :: .int sto :: .ref mwd :: .ref msd :: .int sx_ :: .ref mws :: .int sun :: .ref mfr :: .ref mqu :: .ref miw :: .int sfi :: .int swa :: .long sdx :: .ref mim :: .ref mix :: .ref mmd :: []))), (msd, .inl ((cs 0), 133, .inl gsd))]) hP [0, 1] rfl
  refine cl_P (W.runV (As := [.int a]) (rest := [.int x_1]) ⟨hx, hb, hml, hown, hts⟩ (c_M_rightIn l D cs m0 mtp sta sru msg mln mcl mcs mrd snx swr snu ste sma sde sli mop sod mst sto mwd msd sx_ mws sun mfr mqu miw sfi swa sdx mim mix mmd gsd a hsi hbk) ⟨callB_of 1 hts (gd_C qq_7_69) rfl rfl rfl (hT _ qq_1_9) (hT _ qq_7_66) (by decide +kernel) (rm_R rfl rfl), (hT _ qq_7_68), (hT _ qs_5_6)⟩ (pq_V hPc hK hN (ci := 10) (q0 := 0) rfl rfl) rfl rfl hl.1 rfl (lv_room (Nat.le_of_ble_eq_true rfl)) dX12_isGoal_6 ⟨Nat.le_of_ble_eq_true rfl, Nat.le_of_ble_eq_true rfl⟩) (fun v9 hz_5 => ?_)
  obtain ⟨x_4, rfl, r_6⟩ := hz_5
  refine lv_iconst (v := (-1)) hx hb dX12_isGoal_9 (by decide) ?_
  refine lv_ixor hx hb dX12_isGoal_10 ?_
  refine lv_topi (fun x_7 e_8 => ?_)
  refine lv_iand hx hb dX12_isGoal_11 ?_
  refine lv_topi (fun x_9 e_10 => ?_)
  have r_11 : Rg 0 255 x_9 := Rg.andl e_10 r_3 (by decide)
  refine lv_if_ne (tgt := 19) hx hb dX12_isGoal_12 (by decide) (fun c_12 => ?_) (fun c_12 => ?_)
  · have r_13 : Rg 1 255 x_9 := Rg.ne c_12 r_11 (Rg.c (c := 0) (k := 0) rfl) (by decide)
    refine lv_iconst (v := 0) hx hb dX12_isGoal_19 (by decide) ?_
    exact W.zret (v := 0) (ty := .boolean) hx hb hr rfl (fun t9 ht9 hW9 => ⟨⟨_, rfl, _, rfl, (Rg.wk (lo2 := 0) (hi2 := 1) (Rg.c (c := 0) (k := 0) rfl) (by decide))⟩, ht9.trans hHe⟩) (fun _ h9 => by rw [hlc] at h9; exact absurd h9 List.not_mem_nil) dX12_isGoal_20
  · have r_14 : Rg 0 0 x_9 := Rg.eq_l c_12 r_11 (Rg.c (c := 0) (k := 0) rfl) (by decide)
    refine lv_iconst (v := 1) hx hb dX12_isGoal_15 (by decide) ?_
    refine lv_goto (tgt := 20) hx hb dX12_isGoal_16 (by decide) ?_
    exact W.zret (v := 1) (ty := .boolean) hx hb hr rfl (fun t9 ht9 hW9 => ⟨⟨_, rfl, _, rfl, (Rg.wk (lo2 := 0) (hi2 := 1) (Rg.c (c := 1) (k := 1) rfl) (by decide))⟩, ht9.trans hHe⟩) (fun _ h9 => by rw [hlc] at h9; exact absurd h9 List.not_mem_nil) dX12_isGoal_20
