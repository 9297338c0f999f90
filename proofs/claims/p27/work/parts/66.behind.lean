set_option maxHeartbeats 4000000 in
set_option maxRecDepth 100000 in
theorem c_M_tieE (l : Launch) (D : va_G) (cs : Nat → ClassId) (m0 : Nat) (mtp : Nat) (sta : Int32) (sru : Int32) (msg : Nat) (mln : Nat) (mcl : Nat) (mcs : Nat) (mrd : Nat) (snx : Int32) (swr : Int32) (snu : Int32) (ste : Int32) (sma : Int32) (sde : Int32) (sli : Int32) (mop : Nat) (sod : Int32) (mst : Nat) (sto : Int32) (mwd : Nat) (msd : Nat) (sx_ : Int32) (mws : Nat) (sun : Int32) (mfr : Nat) (mqu : Nat) (miw : Nat) (sfi : Int32) (swa : Int32) (sdx : Int64) (mim : Nat) (mix : Nat) (mmd : Nat) (gsd : Nat → Int32) (b : Int32) (hsi : SI gsd) (r_b : Rg 0 7 b) : Met l yX12_tieOf (Cond.code yX12_tieOf cX12_tieOf 2 (some .int) :: TB) (RM 0 0 0) (va_Pc [.ref m0, .int b] (PRR D cs [(m0, .inr (10, (.ref mtp :: .int sta :: .int sru :: .ref msg :: .ref mln :: .ref mcl :: .ref mcs :: .ref mrd :: .int snx :: .int swr :: .int snu :: .int ste :: .int sma :: .int sde :: .int sli :: .ref mop :: .int sod :: .ref mst :: .int sto :: .ref mwd :: .ref msd :: .int sx_ :: .ref mws :: .int sun :: .ref mfr :: .ref mqu :: .ref miw :: .int sfi :: .int swa :: .long sdx :: .ref mim :: .ref mix :: .ref mmd :: []))), (msd, .inl ((cs 0), 133, .inl gsd))])) (k2_QcV (.int (tieF gsd (cN b)))) 0 0 (fun _ => False) := by
  refine MER (y := yX12_tieOf) (cc := cX12_tieOf) (maxL := 2) (ret := (some .int)) (d := 0) (D := D) (cs := cs) (ws := [(m0, .inr (10, (.ref mtp :: .int sta :: .int sru :: .ref msg :: .ref mln :: .ref mcl :: .ref mcs :: .ref mrd :: .int snx :: .int swr :: .int snu :: .int ste :: .int sma :: .int sde :: .int sli :: .ref mop :: .int sod :: .ref mst :: .int sto :: .ref mwd :: .ref msd :: .int sx_ :: .ref mws :: .int sun :: .ref mfr :: .ref mqu :: .ref miw :: .int sfi :: .int swa :: .long sdx :: .ref mim :: .ref mix :: .ref mmd :: []))), (msd, .inl ((cs 0), 133, .inl gsd))]) (av := [.ref m0, .int b]) (Qc := k2_QcV (.int (tieF gsd (cN b)))) (by decide) (Nat.le_of_ble_eq_true rfl) ?_
  intro p e s m below meth c ls H hHe hx hb hr hml hown hts hlocks hP hK hN hl
  obtain ⟨locs, hlc⟩ : ∃ z : List Loc, z = [] := ⟨_, rfl⟩
  rw [← hlc]
  have hown : s.vm.findClass "WrongHoleModel" = some m.cls := hown
  have hT : ∀ w ∈ TB, w.before ([.ref m0, .int b] : List Value).toArray s = true := fun w h => hts w (List.mem_cons_of_mem _ h)
  have hl : lv_has ls 2 [(0, .ref m0), (1, .int b)] := hl
  have hP : va_P D vwCl [(m0, .inr (10, (.ref mtp :: .int sta :: .int sru :: .ref msg :: .ref mln :: .ref mcl :: .ref mcs :: .ref mrd :: .int snx :: .int swr :: .int snu :: .int ste :: .int sma :: .int sde :: .int sli :: .ref mop :: .int sod :: .ref mst :: .int sto :: .ref mwd :: .ref msd :: .int sx_ :: .ref mws :: .int sun :: .ref mfr :: .ref mqu :: .ref miw :: .int sfi :: .int swa :: .long sdx :: .ref mim :: .ref mix :: .ref mmd :: []))), (msd, .inl ((cs 0), 133, .inl gsd))] H := hP
  refine lv_iload_n hx hb dX12_tieOf_0 rfl (lv_at hl 1 rfl) ?_
  refine lv_aload_n hx hb dX12_tieOf_1 rfl (lv_at hl 0 rfl) ?_
  refine va_get (D := D) (ci := 10) (v := .ref msd) (C := "WrongHoleModel") (T := TX12) (N := 33) hx hb hts (iq_RX12 _) hown hK hP 0 rfl rfl 20 (by decide) (hT _ qq_5_172) (fun _ h9 => h9) rfl dX12_tieOf_2 ?_
  refine lv_iconst (v := 4) hx hb dX12_tieOf_5 (by decide) ?_
  have hi_1 : vp_in 4 133 := vi_c rfl
  refine va_iald hx hb hK hP 1 0 rfl rfl hi_1 dX12_tieOf_6 ?_
  refine lv_topi (fun x_2 e_3 => ?_)
  have r_4 : Rg 0 8 x_2 := Rg.of e_3 (hsi.a4)
  refine lv_icmp_ge (tgt := 19) hx hb dX12_tieOf_7 (by decide) (fun c_5 => ?_) (fun c_5 => ?_)
  · have r_6 : Rg 0 7 x_2 := Rg.le_l c_5 r_4 r_b (by decide)
    refine lv_iconst (v := 0) hx hb dX12_tieOf_19 (by decide) ?_
    exact W.iret (v := 0) hx hb hr (fun t9 ht9 hW9 => ⟨by rw [show (.int (tieF gsd (cN b)) : Value) = .int 0 from (congrArg Value.int (show tieF gsd (cN b) = 0 from by unfold tieF; rw [if_pos ((show gsd 4 ≤ nI (cN b) ↔ x_2 ≤ b from by rw [← cN_nI r_b (by decide), show gsd 4 = x_2 from e_3.symm]).mpr c_5)]))], ht9.trans hHe⟩) (fun _ h9 => by rw [hlc] at h9; exact absurd h9 List.not_mem_nil) dX12_tieOf_20
  · have r_7 : Rg 1 8 x_2 := Rg.lt_r (nle_lt c_5) r_b r_4 (by decide)
    refine lv_aload_n hx hb dX12_tieOf_10 rfl (lv_at hl 0 rfl) ?_
    refine va_get (D := D) (ci := 10) (v := .ref msd) (C := "WrongHoleModel") (T := TX12) (N := 33) hx hb hts (iq_RX12 _) hown hK hP 0 rfl rfl 20 (by decide) (hT _ qq_5_172) (fun _ h9 => h9) rfl dX12_tieOf_11 ?_
    refine lv_iconst (v := 5) hx hb dX12_tieOf_14 (by decide) ?_
    have hi_11 : vp_in 5 133 := vi_c rfl
    refine va_iald hx hb hK hP 1 0 rfl rfl hi_11 dX12_tieOf_15 ?_
    refine lv_topi (fun x_12 e_13 => ?_)
    have r_14 : Rg 0 20 x_12 := Rg.of e_13 (hsi.a5)
    refine lv_goto (tgt := 20) hx hb dX12_tieOf_16 (by decide) ?_
    exact W.iret (v := x_12) hx hb hr (fun t9 ht9 hW9 => ⟨by rw [show (.int (tieF gsd (cN b)) : Value) = .int x_12 from (congrArg Value.int (show tieF gsd (cN b) = x_12 from by unfold tieF; rw [if_neg (fun h9 => c_5 ((show gsd 4 ≤ nI (cN b) ↔ x_2 ≤ b from by rw [← cN_nI r_b (by decide), show gsd 4 = x_2 from e_3.symm]).mp h9))]; exact e_13.symm))], ht9.trans hHe⟩) (fun _ h9 => by rw [hlc] at h9; exact absurd h9 List.not_mem_nil) dX12_tieOf_20
set_option maxHeartbeats 4000000 in
set_option maxRecDepth 100000 in
theorem c_M_timeE (l : Launch) (D : va_G) (cs : Nat → ClassId) (m0 : Nat) (mtp : Nat) (sta : Int32) (sru : Int32) (msg : Nat) (mln : Nat) (mcl : Nat) (mcs : Nat) (mrd : Nat) (snx : Int32) (swr : Int32) (snu : Int32) (ste : Int32) (sma : Int32) (sde : Int32) (sli : Int32) (mop : Nat) (sod : Int32) (mst : Nat) (sto : Int32) (mwd : Nat) (msd : Nat) (sx_ : Int32) (mws : Nat) (sun : Int32) (mfr : Nat) (mqu : Nat) (miw : Nat) (sfi : Int32) (swa : Int32) (sdx : Int64) (mim : Nat) (mix : Nat) (mmd : Nat) (gsd : Nat → Int32) (b : Int32) (hsi : SI gsd) (r_b : Rg 0 71 b) (hpos : 0 < Int32.toInt (gsd 0)) : Met l yX12_timeOf (Cond.code yX12_timeOf cX12_timeOf 2 (some .int) :: TB) (RM 1 0 0) (va_Pc [.ref m0, .int b] (PRR D cs [(m0, .inr (10, (.ref mtp :: .int sta :: .int sru :: .ref msg :: .ref mln :: .ref mcl :: .ref mcs :: .ref mrd :: .int snx :: .int swr :: .int snu :: .int ste :: .int sma :: .int sde :: .int sli :: .ref mop :: .int sod :: .ref mst :: .int sto :: .ref mwd :: .ref msd :: .int sx_ :: .ref mws :: .int sun :: .ref mfr :: .ref mqu :: .ref miw :: .int sfi :: .int swa :: .long sdx :: .ref mim :: .ref mix :: .ref mmd :: []))), (msd, .inl ((cs 0), 133, .inl gsd))])) (k2_QcV (.int (tmF gsd (cN b)))) 0 0 (fun _ => False) := by
  refine MER (y := yX12_timeOf) (cc := cX12_timeOf) (maxL := 2) (ret := (some .int)) (d := 1) (D := D) (cs := cs) (ws := [(m0, .inr (10, (.ref mtp :: .int sta :: .int sru :: .ref msg :: .ref mln :: .ref mcl :: .ref mcs :: .ref mrd :: .int snx :: .int swr :: .int snu :: .int ste :: .int sma :: .int sde :: .int sli :: .ref mop :: .int sod :: .ref mst :: .int sto :: .ref mwd :: .ref msd :: .int sx_ :: .ref mws :: .int sun :: .ref mfr :: .ref mqu :: .ref miw :: .int sfi :: .int swa :: .long sdx :: .ref mim :: .ref mix :: .ref mmd :: []))), (msd, .inl ((cs 0), 133, .inl gsd))]) (av := [.ref m0, .int b]) (Qc := k2_QcV (.int (tmF gsd (cN b)))) (by decide) (Nat.le_of_ble_eq_true rfl) ?_
  intro p e s m below meth c ls H hHe hx hb hr hml hown hts hlocks hP hK hN hl
  obtain ⟨locs, hlc⟩ : ∃ z : List Loc, z = [] := ⟨_, rfl⟩
  rw [← hlc]
  have hown : s.vm.findClass "WrongHoleModel" = some m.cls := hown
  have hT : ∀ w ∈ TB, w.before ([.ref m0, .int b] : List Value).toArray s = true := fun w h => hts w (List.mem_cons_of_mem _ h)
  have hl : lv_has ls 2 [(0, .ref m0), (1, .int b)] := hl
  have hP : va_P D vwCl [(m0, .inr (10, (.ref mtp :: .int sta :: .int sru :: .ref msg :: .ref mln :: .ref mcl :: .ref mcs :: .ref mrd :: .int snx :: .int swr :: .int snu :: .int ste :: .int sma :: .int sde :: .int sli :: .ref mop :: .int sod :: .ref mst :: .int sto :: .ref mwd :: .ref msd :: .int sx_ :: .ref mws :: .int sun :: .ref mfr :: .ref mqu :: .ref miw :: .int sfi :: .int swa :: .long sdx :: .ref mim :: .ref mix :: .ref mmd :: []))), (msd, .inl ((cs 0), 133, .inl gsd))] H := hP
  refine lv_iload_n hx hb dX12_timeOf_0 rfl (lv_at hl 1 rfl) ?_
  refine lv_bipush (v := 8) hx hb dX12_timeOf_1 (by decide) ?_
  refine lv_icmp_ge (tgt := 21) hx hb dX12_timeOf_3 (by decide) (fun c_1 => ?_) (fun c_1 => ?_)
  · have r_2 : Rg 8 71 b := Rg.le_r c_1 (Rg.c (c := 8) (k := 8) rfl) r_b (by decide)
    refine lv_aload_n hx hb dX12_timeOf_21 rfl (lv_at hl 0 rfl) ?_
    refine lv_iload_n hx hb dX12_timeOf_22 rfl (lv_at hl 1 rfl) ?_
    refine lv_bipush (v := 8) hx hb dX12_timeOf_23 (by decide) ?_
    refine lv_idiv hx hb dX12_timeOf_25 (by decide) ?_
    refine lv_topi (fun x_32 e_33 => ?_)
    have r_34 : Rg 1 8 x_32 := Rg.divL (al := 8) (ah := 71) (k := 8) e_33 r_2 (Rg.c (c := 8) (k := 8) rfl) (by decide) (by decide) (by decide)
    refine lv_iconst (v := 1) hx hb dX12_timeOf_26 (by decide) ?_
    refine lv_isub hx hb dX12_timeOf_27 ?_
    refine lv_topi (fun x_35 e_36 => ?_)
    have r_37 : Rg 0 7 x_35 := Rg.sub e_36 r_34 (Rg.c (c := 1) (k := 1) rfl) (by decide)
    refine lv_iconst (v := 3) hx hb dX12_timeOf_28 (by decide) ?_
    have hPc := va_P.sub (ws' := [(m0, .inr (10, (.ref mtp :: .int sta :: .int sru :: .ref msg :: .ref mln :: .ref mcl :: .ref mcs :: .ref mrd :: .int snx :: .int swr :: .int snu :: .int ste :: .int sma :: .int sde :: .int sli :: .ref mop :: .int sod :: .ref mst :: .int sto :: .ref mwd :: .ref msd :: .int sx_ :: .ref mws :: .int sun :: .ref mfr :: .ref mqu :: .ref miw :: .int sfi :: .int swa :: .long sdx :: .ref mim :: .ref mix :: .ref mmd :: []))), (msd, .inl ((cs 0), 133, .inl gsd))]) hP [0, 1] rfl
    refine cl_V (W.runV (As := [.int x_35, .int 3]) (rest := []) ⟨hx, hb, hml, hown, hts⟩ (c_M_buttonOf_3 l D cs m0 mtp sta sru msg mln mcl mcs mrd snx swr snu ste sma sde sli mop sod mst sto mwd msd sx_ mws sun mfr mqu miw sfi swa sdx mim mix mmd gsd x_35 hsi r_37) ⟨callB_of 2 hts (gd_C qq_7_9) rfl rfl rfl (hT _ qq_1_9) (hT _ qq_7_6) (by decide +kernel) (rm_R rfl rfl), (hT _ qq_7_8), (hT _ qs_4_11)⟩ (pq_V hPc hK hN (ci := 10) (q0 := 0) rfl rfl) rfl rfl hl.1 rfl (lv_room (Nat.le_of_ble_eq_true rfl)) dX12_timeOf_29 ⟨Nat.le_of_ble_eq_true rfl, Nat.le_of_ble_eq_true rfl⟩) ?_
    refine lv_topi (fun x_38 e_39 => ?_)
    have r_40 : Rg 1 20 x_38 := Rg.of e_39 (hsi.at_tm _ (cN_lt r_37 (by decide)) hpos).2
    refine lv_aload_n hx hb dX12_timeOf_32 rfl (lv_at hl 0 rfl) ?_
    refine lv_iload_n hx hb dX12_timeOf_33 rfl (lv_at hl 1 rfl) ?_
    refine lv_bipush (v := 8) hx hb dX12_timeOf_34 (by decide) ?_
    refine lv_idiv hx hb dX12_timeOf_36 (by decide) ?_
    refine lv_topi (fun x_41 e_42 => ?_)
    have r_43 : Rg 1 8 x_41 := Rg.divL (al := 8) (ah := 71) (k := 8) e_42 r_2 (Rg.c (c := 8) (k := 8) rfl) (by decide) (by decide) (by decide)
    refine lv_iconst (v := 1) hx hb dX12_timeOf_37 (by decide) ?_
    refine lv_isub hx hb dX12_timeOf_38 ?_
    refine lv_topi (fun x_44 e_45 => ?_)
    have r_46 : Rg 0 7 x_44 := Rg.sub e_45 r_43 (Rg.c (c := 1) (k := 1) rfl) (by decide)
    have hPc := va_P.sub (ws' := [(m0, .inr (10, (.ref mtp :: .int sta :: .int sru :: .ref msg :: .ref mln :: .ref mcl :: .ref mcs :: .ref mrd :: .int snx :: .int swr :: .int snu :: .int ste :: .int sma :: .int sde :: .int sli :: .ref mop :: .int sod :: .ref mst :: .int sto :: .ref mwd :: .ref msd :: .int sx_ :: .ref mws :: .int sun :: .ref mfr :: .ref mqu :: .ref miw :: .int sfi :: .int swa :: .long sdx :: .ref mim :: .ref mix :: .ref mmd :: []))), (msd, .inl ((cs 0), 133, .inl gsd))]) hP [0, 1] rfl
    refine cl_V (W.runV (As := [.int x_44]) (rest := [.int x_38]) ⟨hx, hb, hml, hown, hts⟩ (c_M_tieE l D cs m0 mtp sta sru msg mln mcl mcs mrd snx swr snu ste sma sde sli mop sod mst sto mwd msd sx_ mws sun mfr mqu miw sfi swa sdx mim mix mmd gsd x_44 hsi r_46) ⟨callB_of 1 hts (gd_C qq_7_13) rfl rfl rfl (hT _ qq_1_9) (hT _ qq_7_10) (by decide +kernel) (rm_R rfl rfl), (hT _ qq_7_12), (hT _ qs_4_12)⟩ (pq_V hPc hK hN (ci := 10) (q0 := 0) rfl rfl) rfl rfl hl.1 rfl (lv_room (Nat.le_of_ble_eq_true rfl)) dX12_timeOf_39 ⟨Nat.le_of_ble_eq_true rfl, Nat.le_of_ble_eq_true rfl⟩) ?_
    refine lv_topi (fun x_47 e_48 => ?_)
    have r_49 : Rg 0 20 x_47 := Rg.of e_48 (tie_rg (hsi) _)
    refine lv_iadd hx hb dX12_timeOf_42 ?_
    refine lv_topi (fun x_50 e_51 => ?_)
    have r_52 : Rg 1 40 x_50 := Rg.add e_51 r_40 r_49 (by decide)
    exact W.iret (v := x_50) hx hb hr (fun t9 ht9 hW9 => ⟨by rw [show (.int (tmF gsd (cN b)) : Value) = .int x_50 from (congrArg Value.int (show tmF gsd (cN b) = x_50 from by unfold tmF; rw [if_neg (by have h9 := le_cN c_1 (Rg.c (c := 8) (k := 8) rfl) r_2 (by decide); have h8 : cN 8 = 8 := rfl; omega), e_51, e_39, e_48, t81 r_2 (by decide) e_33 e_36, t81 r_2 (by decide) e_42 e_45]))], ht9.trans hHe⟩) (fun _ h9 => by rw [hlc] at h9; exact absurd h9 List.not_mem_nil) dX12_timeOf_43
  · have r_3 : Rg 0 7 b := Rg.lt_l (nle_lt c_1) r_b (Rg.c (c := 8) (k := 8) rfl) (by decide)
    refine lv_aload_n hx hb dX12_timeOf_6 rfl (lv_at hl 0 rfl) ?_
    refine lv_iload_n hx hb dX12_timeOf_7 rfl (lv_at hl 1 rfl) ?_
    refine lv_iconst (v := 2) hx hb dX12_timeOf_8 (by decide) ?_
    have hPc := va_P.sub (ws' := [(m0, .inr (10, (.ref mtp :: .int sta :: .int sru :: .ref msg :: .ref mln :: .ref mcl :: .ref mcs :: .ref mrd :: .int snx :: .int swr :: .int snu :: .int ste :: .int sma :: .int sde :: .int sli :: .ref mop :: .int sod :: .ref mst :: .int sto :: .ref mwd :: .ref msd :: .int sx_ :: .ref mws :: .int sun :: .ref mfr :: .ref mqu :: .ref miw :: .int sfi :: .int swa :: .long sdx :: .ref mim :: .ref mix :: .ref mmd :: []))), (msd, .inl ((cs 0), 133, .inl gsd))]) hP [0, 1] rfl
    refine cl_V (W.runV (As := [.int b, .int 2]) (rest := []) ⟨hx, hb, hml, hown, hts⟩ (c_M_buttonOf_2 l D cs m0 mtp sta sru msg mln mcl mcs mrd snx swr snu ste sma sde sli mop sod mst sto mwd msd sx_ mws sun mfr mqu miw sfi swa sdx mim mix mmd gsd b hsi r_3) ⟨callB_of 2 hts (gd_C qq_7_9) rfl rfl rfl (hT _ qq_1_9) (hT _ qq_7_6) (by decide +kernel) (rm_R rfl rfl), (hT _ qq_7_8), (hT _ qs_4_11)⟩ (pq_V hPc hK hN (ci := 10) (q0 := 0) rfl rfl) rfl rfl hl.1 rfl (lv_room (Nat.le_of_ble_eq_true rfl)) dX12_timeOf_9 ⟨Nat.le_of_ble_eq_true rfl, Nat.le_of_ble_eq_true rfl⟩) ?_
    refine lv_topi (fun x_53 e_54 => ?_)
    have r_55 : Rg 1 20 x_53 := Rg.of e_54 (hsi.at_tm _ (cN_lt r_3 (by decide)) hpos).1
    refine lv_aload_n hx hb dX12_timeOf_12 rfl (lv_at hl 0 rfl) ?_
    refine lv_iload_n hx hb dX12_timeOf_13 rfl (lv_at hl 1 rfl) ?_
    have hPc := va_P.sub (ws' := [(m0, .inr (10, (.ref mtp :: .int sta :: .int sru :: .ref msg :: .ref mln :: .ref mcl :: .ref mcs :: .ref mrd :: .int snx :: .int swr :: .int snu :: .int ste :: .int sma :: .int sde :: .int sli :: .ref mop :: .int sod :: .ref mst :: .int sto :: .ref mwd :: .ref msd :: .int sx_ :: .ref mws :: .int sun :: .ref mfr :: .ref mqu :: .ref miw :: .int sfi :: .int swa :: .long sdx :: .ref mim :: .ref mix :: .ref mmd :: []))), (msd, .inl ((cs 0), 133, .inl gsd))]) hP [0, 1] rfl
    refine cl_V (W.runV (As := [.int b]) (rest := [.int x_53]) ⟨hx, hb, hml, hown, hts⟩ (c_M_tieE l D cs m0 mtp sta sru msg mln mcl mcs mrd snx swr snu ste sma sde sli mop sod mst sto mwd msd sx_ mws sun mfr mqu miw sfi swa sdx mim mix mmd gsd b hsi r_3) ⟨callB_of 1 hts (gd_C qq_7_13) rfl rfl rfl (hT _ qq_1_9) (hT _ qq_7_10) (by decide +kernel) (rm_R rfl rfl), (hT _ qq_7_12), (hT _ qs_4_12)⟩ (pq_V hPc hK hN (ci := 10) (q0 := 0) rfl rfl) rfl rfl hl.1 rfl (lv_room (Nat.le_of_ble_eq_true rfl)) dX12_timeOf_14 ⟨Nat.le_of_ble_eq_true rfl, Nat.le_of_ble_eq_true rfl⟩) ?_
    refine lv_topi (fun x_56 e_57 => ?_)
    have r_58 : Rg 0 20 x_56 := Rg.of e_57 (tie_rg (hsi) _)
    refine lv_iadd hx hb dX12_timeOf_17 ?_
    refine lv_topi (fun x_59 e_60 => ?_)
    have r_61 : Rg 1 40 x_59 := Rg.add e_60 r_55 r_58 (by decide)
    refine lv_goto (tgt := 43) hx hb dX12_timeOf_18 (by decide) ?_
    exact W.iret (v := x_59) hx hb hr (fun t9 ht9 hW9 => ⟨by rw [show (.int (tmF gsd (cN b)) : Value) = .int x_59 from (congrArg Value.int (show tmF gsd (cN b) = x_59 from by unfold tmF; rw [if_pos (cN_lt (n := 8) r_3 (by decide)), e_60, e_54, e_57]))], ht9.trans hHe⟩) (fun _ h9 => by rw [hlc] at h9; exact absurd h9 List.not_mem_nil) dX12_timeOf_43
theorem dX12_behind_0 : decode cX12_behind 0 = .ok (.iload_n 2, 1) := by decide +kernel
theorem dX12_behind_1 : decode cX12_behind 1 = .ok (.bipush 8, 2) := by decide +kernel
theorem dX12_behind_3 : decode cX12_behind 3 = .ok (.if_icmp .ge 32, 3) := by decide +kernel
theorem dX12_behind_35 : decode cX12_behind 35 = .ok (.iload_n 2, 1) := by decide +kernel
theorem dX12_behind_36 : decode cX12_behind 36 = .ok (.bipush 8, 2) := by decide +kernel
theorem dX12_behind_38 : decode cX12_behind 38 = .ok (.idiv, 1) := by decide +kernel
theorem dX12_behind_39 : decode cX12_behind 39 = .ok (.iconst 1, 1) := by decide +kernel
theorem dX12_behind_40 : decode cX12_behind 40 = .ok (.isub, 1) := by decide +kernel
theorem dX12_behind_41 : decode cX12_behind 41 = .ok (.istore_n 3, 1) := by decide +kernel
theorem dX12_behind_42 : decode cX12_behind 42 = .ok (.iload_n 2, 1) := by decide +kernel
theorem dX12_behind_43 : decode cX12_behind 43 = .ok (.bipush 8, 2) := by decide +kernel
theorem dX12_behind_45 : decode cX12_behind 45 = .ok (.irem, 1) := by decide +kernel
theorem dX12_behind_46 : decode cX12_behind 46 = .ok (.istore 4, 2) := by decide +kernel
theorem dX12_behind_48 : decode cX12_behind 48 = .ok (.aload_n 0, 1) := by decide +kernel
theorem dX12_behind_49 : decode cX12_behind 49 = .ok (.iload_n 3, 1) := by decide +kernel
theorem dX12_behind_50 : decode cX12_behind 50 = .ok (.invokevirtual 365, 3) := by decide +kernel
theorem qq_7_4 : Cond.code yX12_isButton cX12_isButton 2 (some .boolean) ∈ TB := mk_tb (ti_7 (List.mem_of_getElem? (i := 4) rfl)) rfl
theorem qq_7_1 : Cond.methodLink "WrongHoleModel" 365 yX12_isButton ∈ TB := mk_tb (ti_7 (List.mem_of_getElem? (i := 1) rfl)) rfl
theorem qq_7_3 : Cond.instanceMethod yX12_isButton ∈ TB := mk_tb (ti_7 (List.mem_of_getElem? (i := 3) rfl)) rfl
theorem qs_4_10 : Cond.selects "WrongHoleModel" yX12_isButton yX12_isButton ∈ TB := mk_tb (ti_s (q := (yX12_isButton, 33)) (List.mem_append_right _ (List.mem_append_right _ (List.mem_append_right _ (List.mem_append_right _ (List.mem_append_left _ (List.mem_of_getElem? (i := 10) rfl))))))) rfl
theorem dX12_behind_53 : decode cX12_behind 53 = .ok (.ifCond .eq 33, 3) := by decide +kernel
theorem dX12_behind_86 : decode cX12_behind 86 = .ok (.iconst (-1), 1) := by decide +kernel
theorem dX12_behind_87 : decode cX12_behind 87 = .ok (.ireturn, 1) := by decide +kernel
theorem dX12_behind_56 : decode cX12_behind 56 = .ok (.aload_n 0, 1) := by decide +kernel
theorem dX12_behind_57 : decode cX12_behind 57 = .ok (.iload 4, 2) := by decide +kernel
theorem dX12_behind_59 : decode cX12_behind 59 = .ok (.invokevirtual 371, 3) := by decide +kernel
theorem qq_7_37 : Cond.code yX12_isHole cX12_isHole 2 (some .boolean) ∈ TB := mk_tb (ti_7 (List.mem_of_getElem? (i := 37) rfl)) rfl
theorem qq_7_34 : Cond.methodLink "WrongHoleModel" 371 yX12_isHole ∈ TB := mk_tb (ti_7 (List.mem_of_getElem? (i := 34) rfl)) rfl
theorem qq_7_36 : Cond.instanceMethod yX12_isHole ∈ TB := mk_tb (ti_7 (List.mem_of_getElem? (i := 36) rfl)) rfl
theorem qs_5_1 : Cond.selects "WrongHoleModel" yX12_isHole yX12_isHole ∈ TB := mk_tb (ti_s (q := (yX12_isHole, 33)) (List.mem_append_right _ (List.mem_append_right _ (List.mem_append_right _ (List.mem_append_right _ (List.mem_append_right _ (List.mem_append_left _ (List.mem_of_getElem? (i := 1) rfl)))))))) rfl
theorem dX12_behind_62 : decode cX12_behind 62 = .ok (.ifCond .eq 24, 3) := by decide +kernel
theorem dX12_behind_65 : decode cX12_behind 65 = .ok (.aload_n 0, 1) := by decide +kernel
theorem dX12_behind_66 : decode cX12_behind 66 = .ok (.iload_n 1, 1) := by decide +kernel
theorem dX12_behind_67 : decode cX12_behind 67 = .ok (.iload_n 3, 1) := by decide +kernel
theorem dX12_behind_68 : decode cX12_behind 68 = .ok (.iload 4, 2) := by decide +kernel
theorem dX12_behind_70 : decode cX12_behind 70 = .ok (.invokevirtual 374, 3) := by decide +kernel
theorem qq_7_133 : Cond.code yX12_canJoin cX12_canJoin 4 (some .boolean) ∈ TB := mk_tb (ti_7 (List.mem_of_getElem? (i := 133) rfl)) rfl
theorem qq_7_130 : Cond.methodLink "WrongHoleModel" 374 yX12_canJoin ∈ TB := mk_tb (ti_7 (List.mem_of_getElem? (i := 130) rfl)) rfl
theorem qq_7_132 : Cond.instanceMethod yX12_canJoin ∈ TB := mk_tb (ti_7 (List.mem_of_getElem? (i := 132) rfl)) rfl
theorem qs_5_15 : Cond.selects "WrongHoleModel" yX12_canJoin yX12_canJoin ∈ TB := mk_tb (ti_s (q := (yX12_canJoin, 33)) (List.mem_append_right _ (List.mem_append_right _ (List.mem_append_right _ (List.mem_append_right _ (List.mem_append_right _ (List.mem_append_left _ (List.mem_of_getElem? (i := 15) rfl)))))))) rfl
theorem dX12_behind_73 : decode cX12_behind 73 = .ok (.ifCond .eq 13, 3) := by decide +kernel
theorem dX12_behind_76 : decode cX12_behind 76 = .ok (.iload_n 1, 1) := by decide +kernel
theorem dX12_behind_77 : decode cX12_behind 77 = .ok (.iload_n 3, 1) := by decide +kernel
theorem dX12_behind_78 : decode cX12_behind 78 = .ok (.iload 4, 2) := by decide +kernel
theorem dX12_behind_80 : decode cX12_behind 80 = .ok (.invokestatic 377, 3) := by decide +kernel
theorem qq_7_136 : Cond.code yX12_joined cX12_joined 3 (some .int) ∈ TB := mk_tb (ti_7 (List.mem_of_getElem? (i := 136) rfl)) rfl
theorem qq_7_134 : Cond.methodLink "WrongHoleModel" 377 yX12_joined ∈ TB := mk_tb (ti_7 (List.mem_of_getElem? (i := 134) rfl)) rfl
theorem qq_7_135 : Cond.static yX12_joined ∈ TB := mk_tb (ti_7 (List.mem_of_getElem? (i := 135) rfl)) rfl
theorem dX12_behind_83 : decode cX12_behind 83 = .ok (.goto 4, 3) := by decide +kernel
theorem dX12_behind_6 : decode cX12_behind 6 = .ok (.aload_n 0, 1) := by decide +kernel
theorem dX12_behind_7 : decode cX12_behind 7 = .ok (.iload_n 2, 1) := by decide +kernel
theorem dX12_behind_8 : decode cX12_behind 8 = .ok (.invokevirtual 365, 3) := by decide +kernel
theorem dX12_behind_11 : decode cX12_behind 11 = .ok (.ifCond .eq 22, 3) := by decide +kernel
theorem dX12_behind_33 : decode cX12_behind 33 = .ok (.iconst (-1), 1) := by decide +kernel
theorem dX12_behind_34 : decode cX12_behind 34 = .ok (.ireturn, 1) := by decide +kernel
theorem dX12_behind_14 : decode cX12_behind 14 = .ok (.iload_n 1, 1) := by decide +kernel
theorem dX12_behind_15 : decode cX12_behind 15 = .ok (.invokestatic 338, 3) := by decide +kernel
theorem dX12_behind_18 : decode cX12_behind 18 = .ok (.iload_n 2, 1) := by decide +kernel
theorem dX12_behind_19 : decode cX12_behind 19 = .ok (.invokestatic 332, 3) := by decide +kernel
theorem dX12_behind_22 : decode cX12_behind 22 = .ok (.ifCond .eq 11, 3) := by decide +kernel
theorem dX12_behind_25 : decode cX12_behind 25 = .ok (.iload_n 1, 1) := by decide +kernel
theorem dX12_behind_26 : decode cX12_behind 26 = .ok (.iload_n 2, 1) := by decide +kernel
theorem dX12_behind_27 : decode cX12_behind 27 = .ok (.invokestatic 368, 3) := by decide +kernel
theorem qq_7_129 : Cond.code yX12_parted cX12_parted 2 (some .int) ∈ TB := mk_tb (ti_7 (List.mem_of_getElem? (i := 129) rfl)) rfl
theorem qq_7_127 : Cond.methodLink "WrongHoleModel" 368 yX12_parted ∈ TB := mk_tb (ti_7 (List.mem_of_getElem? (i := 127) rfl)) rfl
theorem qq_7_128 : Cond.static yX12_parted ∈ TB := mk_tb (ti_7 (List.mem_of_getElem? (i := 128) rfl)) rfl
theorem dX12_behind_30 : decode cX12_behind 30 = .ok (.goto 4, 3) := by decide +kernel
set_option maxHeartbeats 4000000 in
set_option maxRecDepth 100000 in
theorem c_M_behind (l : Launch) (D : va_G) (cs : Nat → ClassId) (m0 : Nat) (mtp : Nat) (sta : Int32) (sru : Int32) (msg : Nat) (mln : Nat) (mcl : Nat) (mcs : Nat) (mrd : Nat) (snx : Int32) (swr : Int32) (snu : Int32) (ste : Int32) (sma : Int32) (sde : Int32) (sli : Int32) (mop : Nat) (sod : Int32) (mst : Nat) (sto : Int32) (mwd : Nat) (msd : Nat) (sx_ : Int32) (mws : Nat) (sun : Int32) (mfr : Nat) (mqu : Nat) (miw : Nat) (sfi : Int32) (swa : Int32) (sdx : Int64) (mim : Nat) (mix : Nat) (mmd : Nat) (gsd : Nat → Int32) (a : Int32) (b : Int32) (hsi : SI gsd) (r_b : Rg 0 71 b) (hbk : BK a) : Met l yX12_behind (Cond.code yX12_behind cX12_behind 5 (some .int) :: TB) (RM 4 0 0) (va_Pc [.ref m0, .int a, .int b] (PRR D cs [(m0, .inr (10, (.ref mtp :: .int sta :: .int sru :: .ref msg :: .ref mln :: .ref mcl :: .ref mcs :: .ref mrd :: .int snx :: .int swr :: .int snu :: .int ste :: .int sma :: .int sde :: .int sli :: .ref mop :: .int sod :: .ref mst :: .int sto :: .ref mwd :: .ref msd :: .int sx_ :: .ref mws :: .int sun :: .ref mfr :: .ref mqu :: .ref miw :: .int sfi :: .int swa :: .long sdx :: .ref mim :: .ref mix :: .ref mmd :: []))), (msd, .inl ((cs 0), 133, .inl gsd))])) (QP (fun v => ∃ x : Int32, v = .int x ∧ Rg (-1) 65535 x ∧ x = bhF gsd (cN a) (cN b) ∧ (¬ x < 0 → BK x))) 0 0 (fun _ => False) := by
  refine MER (y := yX12_behind) (cc := cX12_behind) (maxL := 5) (ret := (some .int)) (d := 4) (D := D) (cs := cs) (ws := [(m0, .inr (10, (.ref mtp :: .int sta :: .int sru :: .ref msg :: .ref mln :: .ref mcl :: .ref mcs :: .ref mrd :: .int snx :: .int swr :: .int snu :: .int ste :: .int sma :: .int sde :: .int sli :: .ref mop :: .int sod :: .ref mst :: .int sto :: .ref mwd :: .ref msd :: .int sx_ :: .ref mws :: .int sun :: .ref mfr :: .ref mqu :: .ref miw :: .int sfi :: .int swa :: .long sdx :: .ref mim :: .ref mix :: .ref mmd :: []))), (msd, .inl ((cs 0), 133, .inl gsd))]) (av := [.ref m0, .int a, .int b]) (Qc := QP (fun v => ∃ x : Int32, v = .int x ∧ Rg (-1) 65535 x ∧ x = bhF gsd (cN a) (cN b) ∧ (¬ x < 0 → BK x))) (by decide) (Nat.le_of_ble_eq_true rfl) ?_
  intro p e s m below meth c ls H hHe hx hb hr hml hown hts hlocks hP hK hN hl
  obtain ⟨locs, hlc⟩ : ∃ z : List Loc, z = [] := ⟨_, rfl⟩
  rw [← hlc]
  have hown : s.vm.findClass "WrongHoleModel" = some m.cls := hown
  have hT : ∀ w ∈ TB, w.before ([.ref m0, .int a, .int b] : List Value).toArray s = true := fun w h => hts w (List.mem_cons_of_mem _ h)
  have hl : lv_has ls 5 [(0, .ref m0), (1, .int a), (2, .int b)] := hl
  have hP : va_P D vwCl [(m0, .inr (10, (.ref mtp :: .int sta :: .int sru :: .ref msg :: .ref mln :: .ref mcl :: .ref mcs :: .ref mrd :: .int snx :: .int swr :: .int snu :: .int ste :: .int sma :: .int sde :: .int sli :: .ref mop :: .int sod :: .ref mst :: .int sto :: .ref mwd :: .ref msd :: .int sx_ :: .ref mws :: .int sun :: .ref mfr :: .ref mqu :: .ref miw :: .int sfi :: .int swa :: .long sdx :: .ref mim :: .ref mix :: .ref mmd :: []))), (msd, .inl ((cs 0), 133, .inl gsd))] H := hP
  refine lv_iload_n hx hb dX12_behind_0 rfl (lv_at hl 2 rfl) ?_
  refine lv_bipush (v := 8) hx hb dX12_behind_1 (by decide) ?_
  refine lv_icmp_ge (tgt := 35) hx hb dX12_behind_3 (by decide) (fun c_1 => ?_) (fun c_1 => ?_)
  · have r_2 : Rg 8 71 b := Rg.le_r c_1 (Rg.c (c := 8) (k := 8) rfl) r_b (by decide)
    refine lv_iload_n hx hb dX12_behind_35 rfl (lv_at hl 2 rfl) ?_
    refine lv_bipush (v := 8) hx hb dX12_behind_36 (by decide) ?_
    refine lv_idiv hx hb dX12_behind_38 (by decide) ?_
    refine lv_topi (fun x_4 e_5 => ?_)
    have r_6 : Rg 1 8 x_4 := Rg.divL (al := 8) (ah := 71) (k := 8) e_5 r_2 (Rg.c (c := 8) (k := 8) rfl) (by decide) (by decide) (by decide)
    refine lv_iconst (v := 1) hx hb dX12_behind_39 (by decide) ?_
    refine lv_isub hx hb dX12_behind_40 ?_
    refine lv_topi (fun x_7 e_8 => ?_)
    have r_9 : Rg 0 7 x_7 := Rg.sub e_8 r_6 (Rg.c (c := 1) (k := 1) rfl) (by decide)
    refine lv_istore_n (lv' := [(3, .int x_7), (0, .ref m0), (1, .int a), (2, .int b)]) hx hb dX12_behind_41 rfl hl (by decide) rfl (fun ls hl => ?_)
    refine lv_iload_n hx hb dX12_behind_42 rfl (lv_at hl 3 rfl) ?_
    refine lv_bipush (v := 8) hx hb dX12_behind_43 (by decide) ?_
    refine lv_irem hx hb dX12_behind_45 (by decide) ?_
    refine lv_topi (fun x_10 e_11 => ?_)
    have r_12 : Rg 0 7 x_10 := Rg.rem e_11 (Rg.wk (lo2 := 0) (hi2 := 71) r_2 (by decide)) (Rg.c (c := 8) (k := 8) rfl) (by decide)
    refine lv_istore (lv' := [(4, .int x_10), (3, .int x_7), (0, .ref m0), (1, .int a), (2, .int b)]) hx hb dX12_behind_46 hl (by decide) rfl (fun ls hl => ?_)
    refine lv_aload_n hx hb dX12_behind_48 rfl (lv_at hl 2 rfl) ?_
    refine lv_iload_n hx hb dX12_behind_49 rfl (lv_at hl 1 rfl) ?_
    have hPc := va_P.sub (ws' := [(m0, .inr (10, (.ref mtp :: .int sta :: .int sru :: .ref msg :: .ref mln :: .ref mcl :: .ref mcs :: .ref mrd :: .int snx :: .int swr :: .int snu :: .int ste :: .int sma :: .int sde :: .int sli :: .ref mop :: .int sod :: .ref mst :: .int sto :: .ref mwd :: .ref msd :: .int sx_ :: .ref mws :: .int sun :: .ref mfr :: .ref mqu :: .ref miw :: .int sfi :: .int swa :: .long sdx :: .ref mim :: .ref mix :: .ref mmd :: []))), (msd, .inl ((cs 0), 133, .inl gsd))]) hP [0, 1] rfl
    refine cl_P (W.runV (As := [.int x_7]) (rest := []) ⟨hx, hb, hml, hown, hts⟩ (c_M_isButton l D cs m0 mtp sta sru msg mln mcl mcs mrd snx swr snu ste sma sde sli mop sod mst sto mwd msd sx_ mws sun mfr mqu miw sfi swa sdx mim mix mmd gsd x_7 hsi) ⟨callB_of 1 hts (gd_C qq_7_4) rfl rfl rfl (hT _ qq_1_9) (hT _ qq_7_1) (by decide +kernel) (rm_R rfl rfl), (hT _ qq_7_3), (hT _ qs_4_10)⟩ (pq_V hPc hK hN (ci := 10) (q0 := 0) rfl rfl) rfl rfl hl.1 rfl (lv_room (Nat.le_of_ble_eq_true rfl)) dX12_behind_50 ⟨Nat.le_of_ble_eq_true rfl, Nat.le_of_ble_eq_true rfl⟩) (fun v9 hz_14 => ?_)
    obtain ⟨x_13, rfl, r_15⟩ := hz_14
    refine lv_if_eq (tgt := 86) hx hb dX12_behind_53 (by decide) (fun c_16 => ?_) (fun c_16 => ?_)
    · have r_17 : Rg 0 0 x_13 := Rg.eq_l c_16 r_15.1 (Rg.c (c := 0) (k := 0) rfl) (by decide)
      refine lv_iconst (v := (-1)) hx hb dX12_behind_86 (by decide) ?_
      exact W.iret (v := (-1)) hx hb hr (fun t9 ht9 hW9 => ⟨⟨_, rfl, _, rfl, ⟨⟨by decide, by decide⟩, (show (-1 : Int32) = bhF gsd (cN a) (cN b) from by unfold bhF; rw [if_neg (by have h9 := le_cN c_1 (Rg.c (c := 8) (k := 8) rfl) r_2 (by decide); have h8 : cN 8 = 8 := rfl; omega), if_neg (by rw [← t81 r_2 (by decide) e_5 e_8]; exact nb_of (r_15.2.2 c_16) r_9 (by decide) hsi.a0)]), fun h9 => absurd (by decide) h9⟩⟩, ht9.trans hHe⟩) (fun _ h9 => by rw [hlc] at h9; exact absurd h9 List.not_mem_nil) dX12_behind_87
    · have r_18 : Rg 1 1 x_13 := Rg.ne c_16 r_15.1 (Rg.c (c := 0) (k := 0) rfl) (by decide)
      refine lv_aload_n hx hb dX12_behind_56 rfl (lv_at hl 2 rfl) ?_
      refine lv_iload hx hb dX12_behind_57 (lv_at hl 0 rfl) ?_
      have hPc := va_P.sub (ws' := [(m0, .inr (10, (.ref mtp :: .int sta :: .int sru :: .ref msg :: .ref mln :: .ref mcl :: .ref mcs :: .ref mrd :: .int snx :: .int swr :: .int snu :: .int ste :: .int sma :: .int sde :: .int sli :: .ref mop :: .int sod :: .ref mst :: .int sto :: .ref mwd :: .ref msd :: .int sx_ :: .ref mws :: .int sun :: .ref mfr :: .ref mqu :: .ref miw :: .int sfi :: .int swa :: .long sdx :: .ref mim :: .ref mix :: .ref mmd :: []))), (msd, .inl ((cs 0), 133, .inl gsd))]) hP [0, 1] rfl
      refine cl_P (W.runV (As := [.int x_10]) (rest := []) ⟨hx, hb, hml, hown, hts⟩ (c_M_isHole l D cs m0 mtp sta sru msg mln mcl mcs mrd snx swr snu ste sma sde sli mop sod mst sto mwd msd sx_ mws sun mfr mqu miw sfi swa sdx mim mix mmd gsd x_10 hsi) ⟨callB_of 1 hts (gd_C qq_7_37) rfl rfl rfl (hT _ qq_1_9) (hT _ qq_7_34) (by decide +kernel) (rm_R rfl rfl), (hT _ qq_7_36), (hT _ qs_5_1)⟩ (pq_V hPc hK hN (ci := 10) (q0 := 0) rfl rfl) rfl rfl hl.1 rfl (lv_room (Nat.le_of_ble_eq_true rfl)) dX12_behind_59 ⟨Nat.le_of_ble_eq_true rfl, Nat.le_of_ble_eq_true rfl⟩) (fun v9 hz_35 => ?_)
      obtain ⟨x_34, rfl, r_36⟩ := hz_35
      refine lv_if_eq (tgt := 86) hx hb dX12_behind_62 (by decide) (fun c_37 => ?_) (fun c_37 => ?_)
      · have r_38 : Rg 0 0 x_34 := Rg.eq_l c_37 r_36.1 (Rg.c (c := 0) (k := 0) rfl) (by decide)
        refine lv_iconst (v := (-1)) hx hb dX12_behind_86 (by decide) ?_
        exact W.iret (v := (-1)) hx hb hr (fun t9 ht9 hW9 => ⟨⟨_, rfl, _, rfl, ⟨⟨by decide, by decide⟩, (show (-1 : Int32) = bhF gsd (cN a) (cN b) from by unfold bhF; rw [if_neg (by have h9 := le_cN c_1 (Rg.c (c := 8) (k := 8) rfl) r_2 (by decide); have h8 : cN 8 = 8 := rfl; omega), if_pos (by rw [← t81 r_2 (by decide) e_5 e_8]; exact yb_of (r_15.2.1 c_16) hsi.a0), if_neg (by rw [← t8r r_2 (by decide) e_11]; exact nb_of (r_36.2.2 c_37) r_12 (by decide) hsi.a1)]), fun h9 => absurd (by decide) h9⟩⟩, ht9.trans hHe⟩) (fun _ h9 => by rw [hlc] at h9; exact absurd h9 List.not_mem_nil) dX12_behind_87
      · have r_39 : Rg 1 1 x_34 := Rg.ne c_37 r_36.1 (Rg.c (c := 0) (k := 0) rfl) (by decide)
        refine lv_aload_n hx hb dX12_behind_65 rfl (lv_at hl 2 rfl) ?_
        refine lv_iload_n hx hb dX12_behind_66 rfl (lv_at hl 3 rfl) ?_
        refine lv_iload_n hx hb dX12_behind_67 rfl (lv_at hl 1 rfl) ?_
        refine lv_iload hx hb dX12_behind_68 (lv_at hl 0 rfl) ?_
        have hPc := va_P.sub (ws' := [(m0, .inr (10, (.ref mtp :: .int sta :: .int sru :: .ref msg :: .ref mln :: .ref mcl :: .ref mcs :: .ref mrd :: .int snx :: .int swr :: .int snu :: .int ste :: .int sma :: .int sde :: .int sli :: .ref mop :: .int sod :: .ref mst :: .int sto :: .ref mwd :: .ref msd :: .int sx_ :: .ref mws :: .int sun :: .ref mfr :: .ref mqu :: .ref miw :: .int sfi :: .int swa :: .long sdx :: .ref mim :: .ref mix :: .ref mmd :: []))), (msd, .inl ((cs 0), 133, .inl gsd))]) hP [0, 1] rfl
        refine cl_V (W.runV (As := [.int a, .int x_7, .int x_10]) (rest := []) ⟨hx, hb, hml, hown, hts⟩ (c_M_canJoin l D cs m0 mtp sta sru msg mln mcl mcs mrd snx swr snu ste sma sde sli mop sod mst sto mwd msd sx_ mws sun mfr mqu miw sfi swa sdx mim mix mmd gsd a x_7 x_10 hsi r_9 r_12 hbk) ⟨callB_of 3 hts (gd_C qq_7_133) rfl rfl rfl (hT _ qq_1_9) (hT _ qq_7_130) (by decide +kernel) (rm_R rfl rfl), (hT _ qq_7_132), (hT _ qs_5_15)⟩ (pq_V hPc hK hN (ci := 10) (q0 := 0) rfl rfl) rfl rfl hl.1 rfl (lv_room (Nat.le_of_ble_eq_true rfl)) dX12_behind_70 ⟨Nat.le_of_ble_eq_true rfl, Nat.le_of_ble_eq_true rfl⟩) ?_
        refine lv_topi (fun x_49 e_50 => ?_)
        have r_51 : Rg 0 1 x_49 := Rg.of e_50 (cj_rg _ _ _ _)
        refine lv_if_eq (tgt := 86) hx hb dX12_behind_73 (by decide) (fun c_52 => ?_) (fun c_52 => ?_)
        · have r_53 : Rg 0 0 x_49 := Rg.eq_l c_52 r_51 (Rg.c (c := 0) (k := 0) rfl) (by decide)
          refine lv_iconst (v := (-1)) hx hb dX12_behind_86 (by decide) ?_
          exact W.iret (v := (-1)) hx hb hr (fun t9 ht9 hW9 => ⟨⟨_, rfl, _, rfl, ⟨⟨by decide, by decide⟩, (show (-1 : Int32) = bhF gsd (cN a) (cN b) from by unfold bhF; rw [if_neg (by have h9 := le_cN c_1 (Rg.c (c := 8) (k := 8) rfl) r_2 (by decide); have h8 : cN 8 = 8 := rfl; omega), if_pos (by rw [← t81 r_2 (by decide) e_5 e_8]; exact yb_of (r_15.2.1 c_16) hsi.a0), if_pos (by rw [← t8r r_2 (by decide) e_11]; exact yb_of (r_36.2.1 c_37) hsi.a1), if_neg (by rw [← t81 r_2 (by decide) e_5 e_8, ← t8r r_2 (by decide) e_11]; exact cj_0 e_50 c_52)]), fun h9 => absurd (by decide) h9⟩⟩, ht9.trans hHe⟩) (fun _ h9 => by rw [hlc] at h9; exact absurd h9 List.not_mem_nil) dX12_behind_87
        · have r_54 : Rg 1 1 x_49 := Rg.ne c_52 r_51 (Rg.c (c := 0) (k := 0) rfl) (by decide)
          refine lv_iload_n hx hb dX12_behind_76 rfl (lv_at hl 3 rfl) ?_
          refine lv_iload_n hx hb dX12_behind_77 rfl (lv_at hl 1 rfl) ?_
          refine lv_iload hx hb dX12_behind_78 (lv_at hl 0 rfl) ?_
          have hPc := va_P.sub (ws' := []) hP [] rfl
          refine cl_P (W.runS (As := [.int a, .int x_7, .int x_10]) (rest := []) ⟨hx, hb, hml, hown, hts⟩ (c_M_joined l D cs a x_7 x_10 r_9 r_12 hbk ((cj_1 e_50 c_52).1) ((cj_1 e_50 c_52).2.1)) ⟨callB_of 3 hts (gd_C qq_7_136) rfl rfl rfl (hT _ qq_1_9) (hT _ qq_7_134) (by decide +kernel) (rm_R rfl rfl), (hT _ qq_7_135)⟩ (pq_S hPc hK hN) rfl rfl hl.1 rfl (lv_room (Nat.le_of_ble_eq_true rfl)) dX12_behind_80 ⟨Nat.le_of_ble_eq_true rfl, Nat.le_of_ble_eq_true rfl⟩) (fun v9 hz_59 => ?_)
          obtain ⟨x_58, rfl, r_60⟩ := hz_59
          refine lv_goto (tgt := 87) hx hb dX12_behind_83 (by decide) ?_
          exact W.iret (v := x_58) hx hb hr (fun t9 ht9 hW9 => ⟨⟨_, rfl, _, rfl, ⟨(Rg.wk (lo2 := (-1)) (hi2 := 65535) r_60.2.1 (by decide)), (show x_58 = bhF gsd (cN a) (cN b) from by unfold bhF; rw [if_neg (by have h9 := le_cN c_1 (Rg.c (c := 8) (k := 8) rfl) r_2 (by decide); have h8 : cN 8 = 8 := rfl; omega), if_pos (by rw [← t81 r_2 (by decide) e_5 e_8]; exact yb_of (r_15.2.1 c_16) hsi.a0), if_pos (by rw [← t8r r_2 (by decide) e_11]; exact yb_of (r_36.2.1 c_37) hsi.a1), if_pos (by rw [← t81 r_2 (by decide) e_5 e_8, ← t8r r_2 (by decide) e_11]; exact (cj_1 e_50 c_52).2.2), r_60.1, t81 r_2 (by decide) e_5 e_8, t8r r_2 (by decide) e_11]), fun _ => r_60.2⟩⟩, ht9.trans hHe⟩) (fun _ h9 => by rw [hlc] at h9; exact absurd h9 List.not_mem_nil) dX12_behind_87
  · have r_3 : Rg 0 7 b := Rg.lt_l (nle_lt c_1) r_b (Rg.c (c := 8) (k := 8) rfl) (by decide)
    refine lv_aload_n hx hb dX12_behind_6 rfl (lv_at hl 0 rfl) ?_
    refine lv_iload_n hx hb dX12_behind_7 rfl (lv_at hl 2 rfl) ?_
    have hPc := va_P.sub (ws' := [(m0, .inr (10, (.ref mtp :: .int sta :: .int sru :: .ref msg :: .ref mln :: .ref mcl :: .ref mcs :: .ref mrd :: .int snx :: .int swr :: .int snu :: .int ste :: .int sma :: .int sde :: .int sli :: .ref mop :: .int sod :: .ref mst :: .int sto :: .ref mwd :: .ref msd :: .int sx_ :: .ref mws :: .int sun :: .ref mfr :: .ref mqu :: .ref miw :: .int sfi :: .int swa :: .long sdx :: .ref mim :: .ref mix :: .ref mmd :: []))), (msd, .inl ((cs 0), 133, .inl gsd))]) hP [0, 1] rfl
    refine cl_P (W.runV (As := [.int b]) (rest := []) ⟨hx, hb, hml, hown, hts⟩ (c_M_isButton l D cs m0 mtp sta sru msg mln mcl mcs mrd snx swr snu ste sma sde sli mop sod mst sto mwd msd sx_ mws sun mfr mqu miw sfi swa sdx mim mix mmd gsd b hsi) ⟨callB_of 1 hts (gd_C qq_7_4) rfl rfl rfl (hT _ qq_1_9) (hT _ qq_7_1) (by decide +kernel) (rm_R rfl rfl), (hT _ qq_7_3), (hT _ qs_4_10)⟩ (pq_V hPc hK hN (ci := 10) (q0 := 0) rfl rfl) rfl rfl hl.1 rfl (lv_room (Nat.le_of_ble_eq_true rfl)) dX12_behind_8 ⟨Nat.le_of_ble_eq_true rfl, Nat.le_of_ble_eq_true rfl⟩) (fun v9 hz_62 => ?_)
    obtain ⟨x_61, rfl, r_63⟩ := hz_62
    refine lv_if_eq (tgt := 33) hx hb dX12_behind_11 (by decide) (fun c_64 => ?_) (fun c_64 => ?_)
    · have r_65 : Rg 0 0 x_61 := Rg.eq_l c_64 r_63.1 (Rg.c (c := 0) (k := 0) rfl) (by decide)
      refine lv_iconst (v := (-1)) hx hb dX12_behind_33 (by decide) ?_
      exact W.iret (v := (-1)) hx hb hr (fun t9 ht9 hW9 => ⟨⟨_, rfl, _, rfl, ⟨⟨by decide, by decide⟩, (show (-1 : Int32) = bhF gsd (cN a) (cN b) from by unfold bhF; rw [if_pos (cN_lt (n := 8) r_3 (by decide)), if_neg (nb_of (r_63.2.2 c_64) r_3 (by decide) hsi.a0)]), fun h9 => absurd (by decide) h9⟩⟩, ht9.trans hHe⟩) (fun _ h9 => by rw [hlc] at h9; exact absurd h9 List.not_mem_nil) dX12_behind_34
    · have r_66 : Rg 1 1 x_61 := Rg.ne c_64 r_63.1 (Rg.c (c := 0) (k := 0) rfl) (by decide)
      refine lv_iload_n hx hb dX12_behind_14 rfl (lv_at hl 1 rfl) ?_
      have hPc := va_P.sub (ws' := []) hP [] rfl
      refine cl_V (W.runS (As := [.int a]) (rest := []) ⟨hx, hb, hml, hown, hts⟩ (c_M_inOf l D cs a hbk.1) ⟨callB_of 1 hts (gd_C qq_7_58) rfl rfl rfl (hT _ qq_1_9) (hT _ qq_7_56) (by decide +kernel) (rm_R rfl rfl), (hT _ qq_7_57)⟩ (pq_S hPc hK hN) rfl rfl hl.1 rfl (lv_room (Nat.le_of_ble_eq_true rfl)) dX12_behind_15 ⟨Nat.le_of_ble_eq_true rfl, Nat.le_of_ble_eq_true rfl⟩) ?_
      refine lv_topi (fun x_79 e_80 => ?_)
      have r_81 : Rg 0 255 x_79 := Rg.of e_80 (rg_held _)
      refine lv_iload_n hx hb dX12_behind_18 rfl (lv_at hl 2 rfl) ?_
      have hPc := va_P.sub (ws' := []) hP [] rfl
      refine cl_V (W.runS (As := [.int x_79, .int b]) (rest := []) ⟨hx, hb, hml, hown, hts⟩ (c_M_isOf l D cs x_79 b r_81 r_3) ⟨callB_of 2 hts (gd_C qq_7_72) rfl rfl rfl (hT _ qq_1_9) (hT _ qq_7_70) (by decide +kernel) (rm_R rfl rfl), (hT _ qq_7_71)⟩ (pq_S hPc hK hN) rfl rfl hl.1 rfl (lv_room (Nat.le_of_ble_eq_true rfl)) dX12_behind_19 ⟨Nat.le_of_ble_eq_true rfl, Nat.le_of_ble_eq_true rfl⟩) ?_
      refine lv_topi (fun x_82 e_83 => ?_)
      have r_84 : Rg 0 1 x_82 := Rg.of e_83 (bt_rg _ _)
      refine lv_if_eq (tgt := 33) hx hb dX12_behind_22 (by decide) (fun c_85 => ?_) (fun c_85 => ?_)
      · have r_86 : Rg 0 0 x_82 := Rg.eq_l c_85 r_84 (Rg.c (c := 0) (k := 0) rfl) (by decide)
        refine lv_iconst (v := (-1)) hx hb dX12_behind_33 (by decide) ?_
        exact W.iret (v := (-1)) hx hb hr (fun t9 ht9 hW9 => ⟨⟨_, rfl, _, rfl, ⟨⟨by decide, by decide⟩, (show (-1 : Int32) = bhF gsd (cN a) (cN b) from by unfold bhF; rw [if_pos (cN_lt (n := 8) r_3 (by decide)), if_pos (yb_of (r_63.2.1 c_64) hsi.a0), if_neg (by rw [(bz_0 (n := cN a % 256) (k := cN b) (show x_82 = nI (bt (cN a % 256) (cN b)) from by rw [e_83, c_held e_80]) c_85)]; decide)]), fun h9 => absurd (by decide) h9⟩⟩, ht9.trans hHe⟩) (fun _ h9 => by rw [hlc] at h9; exact absurd h9 List.not_mem_nil) dX12_behind_34
      · have r_87 : Rg 1 1 x_82 := Rg.ne c_85 r_84 (Rg.c (c := 0) (k := 0) rfl) (by decide)
        refine lv_iload_n hx hb dX12_behind_25 rfl (lv_at hl 1 rfl) ?_
        refine lv_iload_n hx hb dX12_behind_26 rfl (lv_at hl 2 rfl) ?_
        have hPc := va_P.sub (ws' := []) hP [] rfl
        refine cl_P (W.runS (As := [.int a, .int b]) (rest := []) ⟨hx, hb, hml, hown, hts⟩ (c_M_parted l D cs a b r_3 hbk (bz_1 (n := cN a % 256) (k := cN b) (show x_82 = nI (bt (cN a % 256) (cN b)) from by rw [e_83, c_held e_80]) c_85)) ⟨callB_of 2 hts (gd_C qq_7_129) rfl rfl rfl (hT _ qq_1_9) (hT _ qq_7_127) (by decide +kernel) (rm_R rfl rfl), (hT _ qq_7_128)⟩ (pq_S hPc hK hN) rfl rfl hl.1 rfl (lv_room (Nat.le_of_ble_eq_true rfl)) dX12_behind_27 ⟨Nat.le_of_ble_eq_true rfl, Nat.le_of_ble_eq_true rfl⟩) (fun v9 hz_92 => ?_)
        obtain ⟨x_91, rfl, r_93⟩ := hz_92
        refine lv_goto (tgt := 34) hx hb dX12_behind_30 (by decide) ?_
        exact W.iret (v := x_91) hx hb hr (fun t9 ht9 hW9 => ⟨⟨_, rfl, _, rfl, ⟨(Rg.wk (lo2 := (-1)) (hi2 := 65535) r_93.2.1 (by decide)), (show x_91 = bhF gsd (cN a) (cN b) from by unfold bhF; rw [if_pos (cN_lt (n := 8) r_3 (by decide)), if_pos (yb_of (r_63.2.1 c_64) hsi.a0), if_pos (bz_1 (n := cN a % 256) (k := cN b) (show x_82 = nI (bt (cN a % 256) (cN b)) from by rw [e_83, c_held e_80]) c_85)]; exact r_93.1), fun _ => r_93.2⟩⟩, ht9.trans hHe⟩) (fun _ h9 => by rw [hlc] at h9; exact absurd h9 List.not_mem_nil) dX12_behind_34
theorem dX12_behindLawful_0 : decode cX12_behindLawful 0 = .ok (.aload_n 0, 1) := by decide +kernel
theorem dX12_behindLawful_1 : decode cX12_behindLawful 1 = .ok (.iload_n 1, 1) := by decide +kernel
theorem dX12_behindLawful_2 : decode cX12_behindLawful 2 = .ok (.iload_n 2, 1) := by decide +kernel
theorem dX12_behindLawful_3 : decode cX12_behindLawful 3 = .ok (.invokevirtual 381, 3) := by decide +kernel
theorem qq_7_126 : Cond.code yX12_behind cX12_behind 5 (some .int) ∈ TB := mk_tb (ti_7 (List.mem_of_getElem? (i := 126) rfl)) rfl
theorem qq_7_123 : Cond.methodLink "WrongHoleModel" 381 yX12_behind ∈ TB := mk_tb (ti_7 (List.mem_of_getElem? (i := 123) rfl)) rfl
theorem qq_7_125 : Cond.instanceMethod yX12_behind ∈ TB := mk_tb (ti_7 (List.mem_of_getElem? (i := 125) rfl)) rfl
theorem qs_5_14 : Cond.selects "WrongHoleModel" yX12_behind yX12_behind ∈ TB := mk_tb (ti_s (q := (yX12_behind, 33)) (List.mem_append_right _ (List.mem_append_right _ (List.mem_append_right _ (List.mem_append_right _ (List.mem_append_right _ (List.mem_append_left _ (List.mem_of_getElem? (i := 14) rfl)))))))) rfl
theorem dX12_behindLawful_6 : decode cX12_behindLawful 6 = .ok (.istore_n 3, 1) := by decide +kernel
theorem dX12_behindLawful_7 : decode cX12_behindLawful 7 = .ok (.iload_n 3, 1) := by decide +kernel
theorem dX12_behindLawful_8 : decode cX12_behindLawful 8 = .ok (.ifCond .lt 15, 3) := by decide +kernel
theorem dX12_behindLawful_23 : decode cX12_behindLawful 23 = .ok (.iconst (-1), 1) := by decide +kernel
theorem dX12_behindLawful_24 : decode cX12_behindLawful 24 = .ok (.ireturn, 1) := by decide +kernel
theorem dX12_behindLawful_11 : decode cX12_behindLawful 11 = .ok (.aload_n 0, 1) := by decide +kernel
theorem dX12_behindLawful_12 : decode cX12_behindLawful 12 = .ok (.iload_n 3, 1) := by decide +kernel
theorem dX12_behindLawful_13 : decode cX12_behindLawful 13 = .ok (.invokevirtual 384, 3) := by decide +kernel
theorem qq_7_89 : Cond.code yX12_isLawful cX12_isLawful 2 (some .boolean) ∈ TB := mk_tb (ti_7 (List.mem_of_getElem? (i := 89) rfl)) rfl
theorem qq_7_86 : Cond.methodLink "WrongHoleModel" 384 yX12_isLawful ∈ TB := mk_tb (ti_7 (List.mem_of_getElem? (i := 86) rfl)) rfl
theorem qq_7_88 : Cond.instanceMethod yX12_isLawful ∈ TB := mk_tb (ti_7 (List.mem_of_getElem? (i := 88) rfl)) rfl
theorem qs_5_8 : Cond.selects "WrongHoleModel" yX12_isLawful yX12_isLawful ∈ TB := mk_tb (ti_s (q := (yX12_isLawful, 33)) (List.mem_append_right _ (List.mem_append_right _ (List.mem_append_right _ (List.mem_append_right _ (List.mem_append_right _ (List.mem_append_left _ (List.mem_of_getElem? (i := 8) rfl)))))))) rfl
theorem dX12_behindLawful_16 : decode cX12_behindLawful 16 = .ok (.ifCond .eq 7, 3) := by decide +kernel
theorem dX12_behindLawful_19 : decode cX12_behindLawful 19 = .ok (.iload_n 3, 1) := by decide +kernel
theorem dX12_behindLawful_20 : decode cX12_behindLawful 20 = .ok (.goto 4, 3) := by decide +kernel
set_option maxHeartbeats 4000000 in
set_option maxRecDepth 100000 in
theorem c_M_behindLawful (l : Launch) (D : va_G) (cs : Nat → ClassId) (m0 : Nat) (mtp : Nat) (sta : Int32) (sru : Int32) (msg : Nat) (mln : Nat) (mcl : Nat) (mcs : Nat) (mrd : Nat) (snx : Int32) (swr : Int32) (snu : Int32) (ste : Int32) (sma : Int32) (sde : Int32) (sli : Int32) (mop : Nat) (sod : Int32) (mst : Nat) (sto : Int32) (mwd : Nat) (msd : Nat) (sx_ : Int32) (mws : Nat) (sun : Int32) (mfr : Nat) (mqu : Nat) (miw : Nat) (sfi : Int32) (swa : Int32) (sdx : Int64) (mim : Nat) (mix : Nat) (mmd : Nat) (gsd : Nat → Int32) (a : Int32) (b : Int32) (hsi : SI gsd) (r_b : Rg 0 71 b) (hbk : BK a) : Met l yX12_behindLawful (Cond.code yX12_behindLawful cX12_behindLawful 4 (some .int) :: TB) (RM 5 0 0) (va_Pc [.ref m0, .int a, .int b] (PRR D cs [(m0, .inr (10, (.ref mtp :: .int sta :: .int sru :: .ref msg :: .ref mln :: .ref mcl :: .ref mcs :: .ref mrd :: .int snx :: .int swr :: .int snu :: .int ste :: .int sma :: .int sde :: .int sli :: .ref mop :: .int sod :: .ref mst :: .int sto :: .ref mwd :: .ref msd :: .int sx_ :: .ref mws :: .int sun :: .ref mfr :: .ref mqu :: .ref miw :: .int sfi :: .int swa :: .long sdx :: .ref mim :: .ref mix :: .ref mmd :: []))), (msd, .inl ((cs 0), 133, .inl gsd))])) (QP (fun v => ∃ x : Int32, v = .int x ∧ Rg (-1) 65535 x ∧ x = blF gsd (cN a) (cN b) ∧ (¬ x < 0 → BK x))) 0 0 (fun _ => False) := by
  refine MER (y := yX12_behindLawful) (cc := cX12_behindLawful) (maxL := 4) (ret := (some .int)) (d := 5) (D := D) (cs := cs) (ws := [(m0, .inr (10, (.ref mtp :: .int sta :: .int sru :: .ref msg :: .ref mln :: .ref mcl :: .ref mcs :: .ref mrd :: .int snx :: .int swr :: .int snu :: .int ste :: .int sma :: .int sde :: .int sli :: .ref mop :: .int sod :: .ref mst :: .int sto :: .ref mwd :: .ref msd :: .int sx_ :: .ref mws :: .int sun :: .ref mfr :: .ref mqu :: .ref miw :: .int sfi :: .int swa :: .long sdx :: .ref mim :: .ref mix :: .ref mmd :: []))), (msd, .inl ((cs 0), 133, .inl gsd))]) (av := [.ref m0, .int a, .int b]) (Qc := QP (fun v => ∃ x : Int32, v = .int x ∧ Rg (-1) 65535 x ∧ x = blF gsd (cN a) (cN b) ∧ (¬ x < 0 → BK x))) (by decide) (Nat.le_of_ble_eq_true rfl) ?_
  intro p e s m below meth c ls H hHe hx hb hr hml hown hts hlocks hP hK hN hl
  obtain ⟨locs, hlc⟩ : ∃ z : List Loc, z = [] := ⟨_, rfl⟩
  rw [← hlc]
  have hown : s.vm.findClass "WrongHoleModel" = some m.cls := hown
  have hT : ∀ w ∈ TB, w.before ([.ref m0, .int a, .int b] : List Value).toArray s = true := fun w h => hts w (List.mem_cons_of_mem _ h)
  have hl : lv_has ls 4 [(0, .ref m0), (1, .int a), (2, .int b)] := hl
  have hP : va_P D vwCl [(m0, .inr (10, (.ref mtp :: .int sta :: .int sru :: .ref msg :: .ref mln :: .ref mcl :: .ref mcs :: .ref mrd :: .int snx :: .int swr :: .int snu :: .int ste :: .int sma :: .int sde :: .int sli :: .ref mop :: .int sod :: .ref mst :: .int sto :: .ref mwd :: .ref msd :: .int sx_ :: .ref mws :: .int sun :: .ref mfr :: .ref mqu :: .ref miw :: .int sfi :: .int swa :: .long sdx :: .ref mim :: .ref mix :: .ref mmd :: []))), (msd, .inl ((cs 0), 133, .inl gsd))] H := hP
  refine lv_aload_n hx hb dX12_behindLawful_0 rfl (lv_at hl 0 rfl) ?_
  refine lv_iload_n hx hb dX12_behindLawful_1 rfl (lv_at hl 1 rfl) ?_
  refine lv_iload_n hx hb dX12_behindLawful_2 rfl (lv_at hl 2 rfl) ?_
  have hPc := va_P.sub (ws' := [(m0, .inr (10, (.ref mtp :: .int sta :: .int sru :: .ref msg :: .ref mln :: .ref mcl :: .ref mcs :: .ref mrd :: .int snx :: .int swr :: .int snu :: .int ste :: .int sma :: .int sde :: .int sli :: .ref mop :: .int sod :: .ref mst :: .int sto :: .ref mwd :: .ref msd :: .int sx_ :: .ref mws :: .int sun :: .ref mfr :: .ref mqu :: .ref miw :: .int sfi :: .int swa :: .long sdx :: .ref mim :: .ref mix :: .ref mmd :: []))), (msd, .inl ((cs 0), 133, .inl gsd))]) hP [0, 1] rfl
  refine cl_P (W.runV (As := [.int a, .int b]) (rest := []) ⟨hx, hb, hml, hown, hts⟩ (c_M_behind l D cs m0 mtp sta sru msg mln mcl mcs mrd snx swr snu ste sma sde sli mop sod mst sto mwd msd sx_ mws sun mfr mqu miw sfi swa sdx mim mix mmd gsd a b hsi r_b hbk) ⟨callB_of 2 hts (gd_C qq_7_126) rfl rfl rfl (hT _ qq_1_9) (hT _ qq_7_123) (by decide +kernel) (rm_R rfl rfl), (hT _ qq_7_125), (hT _ qs_5_14)⟩ (pq_V hPc hK hN (ci := 10) (q0 := 0) rfl rfl) rfl rfl hl.1 rfl (lv_room (Nat.le_of_ble_eq_true rfl)) dX12_behindLawful_3 ⟨Nat.le_of_ble_eq_true rfl, Nat.le_of_ble_eq_true rfl⟩) (fun v9 hz_2 => ?_)
  obtain ⟨x_1, rfl, r_3⟩ := hz_2
  refine lv_istore_n (lv' := [(3, .int x_1), (0, .ref m0), (1, .int a), (2, .int b)]) hx hb dX12_behindLawful_6 rfl hl (by decide) rfl (fun ls hl => ?_)
  refine lv_iload_n hx hb dX12_behindLawful_7 rfl (lv_at hl 0 rfl) ?_
  refine lv_if_lt (tgt := 23) hx hb dX12_behindLawful_8 (by decide) (fun c_4 => ?_) (fun c_4 => ?_)
  · have r_5 : Rg (-1) (-1) x_1 := Rg.lt_l c_4 r_3.1 (Rg.c (c := 0) (k := 0) rfl) (by decide)
    refine lv_iconst (v := (-1)) hx hb dX12_behindLawful_23 (by decide) ?_
    exact W.iret (v := (-1)) hx hb hr (fun t9 ht9 hW9 => ⟨⟨_, rfl, _, rfl, ⟨⟨by decide, by decide⟩, (show (-1 : Int32) = blF gsd (cN a) (cN b) from by unfold blF; rw [← r_3.2.1]; rw [if_pos c_4]), fun h9 => absurd (by decide) h9⟩⟩, ht9.trans hHe⟩) (fun _ h9 => by rw [hlc] at h9; exact absurd h9 List.not_mem_nil) dX12_behindLawful_24
  · have r_6 : Rg 0 65535 x_1 := Rg.le_r (nlt_le c_4) (Rg.c (c := 0) (k := 0) rfl) r_3.1 (by decide)
    refine lv_aload_n hx hb dX12_behindLawful_11 rfl (lv_at hl 1 rfl) ?_
    refine lv_iload_n hx hb dX12_behindLawful_12 rfl (lv_at hl 0 rfl) ?_
    have hPc := va_P.sub (ws' := [(m0, .inr (10, (.ref mtp :: .int sta :: .int sru :: .ref msg :: .ref mln :: .ref mcl :: .ref mcs :: .ref mrd :: .int snx :: .int swr :: .int snu :: .int ste :: .int sma :: .int sde :: .int sli :: .ref mop :: .int sod :: .ref mst :: .int sto :: .ref mwd :: .ref msd :: .int sx_ :: .ref mws :: .int sun :: .ref mfr :: .ref mqu :: .ref miw :: .int sfi :: .int swa :: .long sdx :: .ref mim :: .ref mix :: .ref mmd :: []))), (msd, .inl ((cs 0), 133, .inl gsd))]) hP [0, 1] rfl
    refine cl_V (W.runV (As := [.int x_1]) (rest := []) ⟨hx, hb, hml, hown, hts⟩ (c_M_isLawful l D cs m0 mtp sta sru msg mln mcl mcs mrd snx swr snu ste sma sde sli mop sod mst sto mwd msd sx_ mws sun mfr mqu miw sfi swa sdx mim mix mmd gsd x_1 hsi r_6) ⟨callB_of 1 hts (gd_C qq_7_89) rfl rfl rfl (hT _ qq_1_9) (hT _ qq_7_86) (by decide +kernel) (rm_R rfl rfl), (hT _ qq_7_88), (hT _ qs_5_8)⟩ (pq_V hPc hK hN (ci := 10) (q0 := 0) rfl rfl) rfl rfl hl.1 rfl (lv_room (Nat.le_of_ble_eq_true rfl)) dX12_behindLawful_13 ⟨Nat.le_of_ble_eq_true rfl, Nat.le_of_ble_eq_true rfl⟩) ?_
    refine lv_topi (fun x_13 e_14 => ?_)
    have r_15 : Rg 0 1 x_13 := Rg.of e_14 (law_rg _ _)
    refine lv_if_eq (tgt := 23) hx hb dX12_behindLawful_16 (by decide) (fun c_16 => ?_) (fun c_16 => ?_)
    · have r_17 : Rg 0 0 x_13 := Rg.eq_l c_16 r_15 (Rg.c (c := 0) (k := 0) rfl) (by decide)
      refine lv_iconst (v := (-1)) hx hb dX12_behindLawful_23 (by decide) ?_
      exact W.iret (v := (-1)) hx hb hr (fun t9 ht9 hW9 => ⟨⟨_, rfl, _, rfl, ⟨⟨by decide, by decide⟩, (show (-1 : Int32) = blF gsd (cN a) (cN b) from by unfold blF; rw [← r_3.2.1]; rw [if_neg c_4, if_neg (law_0 e_14 c_16)]), fun h9 => absurd (by decide) h9⟩⟩, ht9.trans hHe⟩) (fun _ h9 => by rw [hlc] at h9; exact absurd h9 List.not_mem_nil) dX12_behindLawful_24
    · have r_18 : Rg 1 1 x_13 := Rg.ne c_16 r_15 (Rg.c (c := 0) (k := 0) rfl) (by decide)
      refine lv_iload_n hx hb dX12_behindLawful_19 rfl (lv_at hl 0 rfl) ?_
      refine lv_goto (tgt := 24) hx hb dX12_behindLawful_20 (by decide) ?_
      exact W.iret (v := x_1) hx hb hr (fun t9 ht9 hW9 => ⟨⟨_, rfl, _, rfl, ⟨r_3.1, (show x_1 = blF gsd (cN a) (cN b) from by unfold blF; rw [← r_3.2.1]; rw [if_neg c_4, if_pos (law_1 e_14 c_16)]), r_3.2.2⟩⟩, ht9.trans hHe⟩) (fun _ h9 => by rw [hlc] at h9; exact absurd h9 List.not_mem_nil) dX12_behindLawful_24
