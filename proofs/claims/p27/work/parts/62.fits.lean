theorem dX12_fits_0 : decode cX12_fits 0 = .ok (.aload_n 0, 1) := by decide +kernel
theorem dX12_fits_1 : decode cX12_fits 1 = .ok (.iload_n 1, 1) := by decide +kernel
theorem dX12_fits_2 : decode cX12_fits 2 = .ok (.iconst 1, 1) := by decide +kernel
theorem dX12_fits_3 : decode cX12_fits 3 = .ok (.invokevirtual 319, 3) := by decide +kernel
theorem qq_7_9 : Cond.code yX12_buttonOf cX12_buttonOf 3 (some .int) ∈ TB := mk_tb (ti_7 (List.mem_of_getElem? (i := 9) rfl)) rfl
theorem qq_7_6 : Cond.methodLink "WrongHoleModel" 319 yX12_buttonOf ∈ TB := mk_tb (ti_7 (List.mem_of_getElem? (i := 6) rfl)) rfl
theorem qq_7_8 : Cond.instanceMethod yX12_buttonOf ∈ TB := mk_tb (ti_7 (List.mem_of_getElem? (i := 8) rfl)) rfl
theorem qs_4_11 : Cond.selects "WrongHoleModel" yX12_buttonOf yX12_buttonOf ∈ TB := mk_tb (ti_s (q := (yX12_buttonOf, 33)) (List.mem_append_right _ (List.mem_append_right _ (List.mem_append_right _ (List.mem_append_right _ (List.mem_append_left _ (List.mem_of_getElem? (i := 11) rfl))))))) rfl
theorem dX12_fits_6 : decode cX12_fits 6 = .ok (.ifCond .ne 31, 3) := by decide +kernel
theorem dX12_fits_37 : decode cX12_fits 37 = .ok (.iconst 0, 1) := by decide +kernel
theorem dX12_fits_38 : decode cX12_fits 38 = .ok (.ireturn, 1) := by decide +kernel
theorem dX12_fits_9 : decode cX12_fits 9 = .ok (.aload_n 0, 1) := by decide +kernel
theorem dX12_fits_10 : decode cX12_fits 10 = .ok (.iload_n 2, 1) := by decide +kernel
theorem dX12_fits_11 : decode cX12_fits 11 = .ok (.iconst 1, 1) := by decide +kernel
theorem dX12_fits_12 : decode cX12_fits 12 = .ok (.invokevirtual 323, 3) := by decide +kernel
theorem qq_7_29 : Cond.code yX12_holeOf cX12_holeOf 3 (some .int) ∈ TB := mk_tb (ti_7 (List.mem_of_getElem? (i := 29) rfl)) rfl
theorem qq_7_26 : Cond.methodLink "WrongHoleModel" 323 yX12_holeOf ∈ TB := mk_tb (ti_7 (List.mem_of_getElem? (i := 26) rfl)) rfl
theorem qq_7_28 : Cond.instanceMethod yX12_holeOf ∈ TB := mk_tb (ti_7 (List.mem_of_getElem? (i := 28) rfl)) rfl
theorem qs_5_0 : Cond.selects "WrongHoleModel" yX12_holeOf yX12_holeOf ∈ TB := mk_tb (ti_s (q := (yX12_holeOf, 33)) (List.mem_append_right _ (List.mem_append_right _ (List.mem_append_right _ (List.mem_append_right _ (List.mem_append_right _ (List.mem_append_left _ (List.mem_of_getElem? (i := 0) rfl)))))))) rfl
theorem dX12_fits_15 : decode cX12_fits 15 = .ok (.ifCond .ne 22, 3) := by decide +kernel
theorem dX12_fits_18 : decode cX12_fits 18 = .ok (.aload_n 0, 1) := by decide +kernel
theorem dX12_fits_19 : decode cX12_fits 19 = .ok (.iload_n 1, 1) := by decide +kernel
theorem dX12_fits_20 : decode cX12_fits 20 = .ok (.iconst 0, 1) := by decide +kernel
theorem dX12_fits_21 : decode cX12_fits 21 = .ok (.invokevirtual 319, 3) := by decide +kernel
theorem dX12_fits_24 : decode cX12_fits 24 = .ok (.aload_n 0, 1) := by decide +kernel
theorem dX12_fits_25 : decode cX12_fits 25 = .ok (.iload_n 2, 1) := by decide +kernel
theorem dX12_fits_26 : decode cX12_fits 26 = .ok (.iconst 0, 1) := by decide +kernel
theorem dX12_fits_27 : decode cX12_fits 27 = .ok (.invokevirtual 323, 3) := by decide +kernel
theorem dX12_fits_30 : decode cX12_fits 30 = .ok (.if_icmp .ne 7, 3) := by decide +kernel
theorem dX12_fits_33 : decode cX12_fits 33 = .ok (.iconst 1, 1) := by decide +kernel
theorem dX12_fits_34 : decode cX12_fits 34 = .ok (.goto 4, 3) := by decide +kernel
set_option maxHeartbeats 4000000 in
set_option maxRecDepth 100000 in
theorem c_M_fits (l : Launch) (D : va_G) (cs : Nat → ClassId) (m0 : Nat) (mtp : Nat) (sta : Int32) (sru : Int32) (msg : Nat) (mln : Nat) (mcl : Nat) (mcs : Nat) (mrd : Nat) (snx : Int32) (swr : Int32) (snu : Int32) (ste : Int32) (sma : Int32) (sde : Int32) (sli : Int32) (mop : Nat) (sod : Int32) (mst : Nat) (sto : Int32) (mwd : Nat) (msd : Nat) (sx_ : Int32) (mws : Nat) (sun : Int32) (mfr : Nat) (mqu : Nat) (miw : Nat) (sfi : Int32) (swa : Int32) (sdx : Int64) (mim : Nat) (mix : Nat) (mmd : Nat) (gsd : Nat → Int32) (b : Int32) (h : Int32) (hsi : SI gsd) (r_b : Rg 0 7 b) (r_h : Rg 0 7 h) : Met l yX12_fits (Cond.code yX12_fits cX12_fits 3 (some .boolean) :: TB) (RM 1 0 0) (va_Pc [.ref m0, .int b, .int h] (PRR D cs [(m0, .inr (10, (.ref mtp :: .int sta :: .int sru :: .ref msg :: .ref mln :: .ref mcl :: .ref mcs :: .ref mrd :: .int snx :: .int swr :: .int snu :: .int ste :: .int sma :: .int sde :: .int sli :: .ref mop :: .int sod :: .ref mst :: .int sto :: .ref mwd :: .ref msd :: .int sx_ :: .ref mws :: .int sun :: .ref mfr :: .ref mqu :: .ref miw :: .int sfi :: .int swa :: .long sdx :: .ref mim :: .ref mix :: .ref mmd :: []))), (msd, .inl ((cs 0), 133, .inl gsd))])) (k2_QcV (.int (nI (fitF gsd (cN b) (cN h))))) 0 0 (fun _ => False) := by
  refine MER (y := yX12_fits) (cc := cX12_fits) (maxL := 3) (ret := (some .boolean)) (d := 1) (D := D) (cs := cs) (ws := [(m0, .inr (10, (.ref mtp :: .int sta :: .int sru :: .ref msg :: .ref mln :: .ref mcl :: .ref mcs :: .ref mrd :: .int snx :: .int swr :: .int snu :: .int ste :: .int sma :: .int sde :: .int sli :: .ref mop :: .int sod :: .ref mst :: .int sto :: .ref mwd :: .ref msd :: .int sx_ :: .ref mws :: .int sun :: .ref mfr :: .ref mqu :: .ref miw :: .int sfi :: .int swa :: .long sdx :: .ref mim :: .ref mix :: .ref mmd :: []))), (msd, .inl ((cs 0), 133, .inl gsd))]) (av := [.ref m0, .int b, .int h]) (Qc := k2_QcV (.int (nI (fitF gsd (cN b) (cN h))))) (by decide) (Nat.le_of_ble_eq_true rfl) ?_
  intro p e s m below meth c ls H hHe hx hb hr hml hown hts hlocks hP hK hN hl
  obtain ⟨locs, hlc⟩ : ∃ z : List Loc, z = [] := ⟨_, rfl⟩
  rw [← hlc]
  have hown : s.vm.findClass "WrongHoleModel" = some m.cls := hown
  have hT : ∀ w ∈ TB, w.before ([.ref m0, .int b, .int h] : List Value).toArray s = true := fun w h => hts w (List.mem_cons_of_mem _ h)
  have hl : lv_has ls 3 [(0, .ref m0), (1, .int b), (2, .int h)] := hl
  have hP : va_P D vwCl [(m0, .inr (10, (.ref mtp :: .int sta :: .int sru :: .ref msg :: .ref mln :: .ref mcl :: .ref mcs :: .ref mrd :: .int snx :: .int swr :: .int snu :: .int ste :: .int sma :: .int sde :: .int sli :: .ref mop :: .int sod :: .ref mst :: .int sto :: .ref mwd :: .ref msd :: .int sx_ :: .ref mws :: .int sun :: .ref mfr :: .ref mqu :: .ref miw :: .int sfi :: .int swa :: .long sdx :: .ref mim :: .ref mix :: .ref mmd :: []))), (msd, .inl ((cs 0), 133, .inl gsd))] H := hP
  refine lv_aload_n hx hb dX12_fits_0 rfl (lv_at hl 0 rfl) ?_
  refine lv_iload_n hx hb dX12_fits_1 rfl (lv_at hl 1 rfl) ?_
  refine lv_iconst (v := 1) hx hb dX12_fits_2 (by decide) ?_
  have hPc := va_P.sub (ws' := [(m0, .inr (10, (.ref mtp :: .int sta :: .int sru :: .ref msg :: .ref mln :: .ref mcl :: .ref mcs :: .ref mrd :: .int snx :: .int swr :: .int snu :: .int ste :: .int sma :: .int sde :: .int sli :: .ref mop :: .int sod :: .ref mst :: .int sto :: .ref mwd :: .ref msd :: .int sx_ :: .ref mws :: .int sun :: .ref mfr :: .ref mqu :: .ref miw :: .int sfi :: .int swa :: .long sdx :: .ref mim :: .ref mix :: .ref mmd :: []))), (msd, .inl ((cs 0), 133, .inl gsd))]) hP [0, 1] rfl
  refine cl_V (W.runV (As := [.int b, .int 1]) (rest := []) ⟨hx, hb, hml, hown, hts⟩ (c_M_buttonOf_1 l D cs m0 mtp sta sru msg mln mcl mcs mrd snx swr snu ste sma sde sli mop sod mst sto mwd msd sx_ mws sun mfr mqu miw sfi swa sdx mim mix mmd gsd b hsi r_b) ⟨callB_of 2 hts (gd_C qq_7_9) rfl rfl rfl (hT _ qq_1_9) (hT _ qq_7_6) (by decide +kernel) (rm_R rfl rfl), (hT _ qq_7_8), (hT _ qs_4_11)⟩ (pq_V hPc hK hN (ci := 10) (q0 := 0) rfl rfl) rfl rfl hl.1 rfl (lv_room (Nat.le_of_ble_eq_true rfl)) dX12_fits_3 ⟨Nat.le_of_ble_eq_true rfl, Nat.le_of_ble_eq_true rfl⟩) ?_
  refine lv_topi (fun x_1 e_2 => ?_)
  refine lv_if_ne (tgt := 37) hx hb dX12_fits_6 (by decide) (fun c_3 => ?_) (fun c_3 => ?_)
  · refine lv_iconst (v := 0) hx hb dX12_fits_37 (by decide) ?_
    exact W.zret (v := 0) (ty := .boolean) hx hb hr rfl (fun t9 ht9 hW9 => ⟨by rw [show (.int (nI (fitF gsd (cN b) (cN h))) : Value) = .int 0 from (congrArg Value.int (show nI (fitF gsd (cN b) (cN h)) = 0 from by unfold fitF; rw [if_neg (fun h9 => c_3 (e_2.trans h9))]; rfl))], ht9.trans hHe⟩) (fun _ h9 => by rw [hlc] at h9; exact absurd h9 List.not_mem_nil) dX12_fits_38
  · have r_4 : Rg 0 0 x_1 := Rg.eq_l c_3 (Rg.top x_1) (Rg.c (c := 0) (k := 0) rfl) (by decide)
    refine lv_aload_n hx hb dX12_fits_9 rfl (lv_at hl 0 rfl) ?_
    refine lv_iload_n hx hb dX12_fits_10 rfl (lv_at hl 2 rfl) ?_
    refine lv_iconst (v := 1) hx hb dX12_fits_11 (by decide) ?_
    have hPc := va_P.sub (ws' := [(m0, .inr (10, (.ref mtp :: .int sta :: .int sru :: .ref msg :: .ref mln :: .ref mcl :: .ref mcs :: .ref mrd :: .int snx :: .int swr :: .int snu :: .int ste :: .int sma :: .int sde :: .int sli :: .ref mop :: .int sod :: .ref mst :: .int sto :: .ref mwd :: .ref msd :: .int sx_ :: .ref mws :: .int sun :: .ref mfr :: .ref mqu :: .ref miw :: .int sfi :: .int swa :: .long sdx :: .ref mim :: .ref mix :: .ref mmd :: []))), (msd, .inl ((cs 0), 133, .inl gsd))]) hP [0, 1] rfl
    refine cl_V (W.runV (As := [.int h, .int 1]) (rest := []) ⟨hx, hb, hml, hown, hts⟩ (c_M_holeOf_1 l D cs m0 mtp sta sru msg mln mcl mcs mrd snx swr snu ste sma sde sli mop sod mst sto mwd msd sx_ mws sun mfr mqu miw sfi swa sdx mim mix mmd gsd h hsi r_h) ⟨callB_of 2 hts (gd_C qq_7_29) rfl rfl rfl (hT _ qq_1_9) (hT _ qq_7_26) (by decide +kernel) (rm_R rfl rfl), (hT _ qq_7_28), (hT _ qs_5_0)⟩ (pq_V hPc hK hN (ci := 10) (q0 := 0) rfl rfl) rfl rfl hl.1 rfl (lv_room (Nat.le_of_ble_eq_true rfl)) dX12_fits_12 ⟨Nat.le_of_ble_eq_true rfl, Nat.le_of_ble_eq_true rfl⟩) ?_
    refine lv_topi (fun x_14 e_15 => ?_)
    refine lv_if_ne (tgt := 37) hx hb dX12_fits_15 (by decide) (fun c_16 => ?_) (fun c_16 => ?_)
    · refine lv_iconst (v := 0) hx hb dX12_fits_37 (by decide) ?_
      exact W.zret (v := 0) (ty := .boolean) hx hb hr rfl (fun t9 ht9 hW9 => ⟨by rw [show (.int (nI (fitF gsd (cN b) (cN h))) : Value) = .int 0 from (congrArg Value.int (show nI (fitF gsd (cN b) (cN h)) = 0 from by unfold fitF; rw [if_pos (e_2.symm.trans c_3), if_neg (fun h9 => c_16 (e_15.trans h9))]; rfl))], ht9.trans hHe⟩) (fun _ h9 => by rw [hlc] at h9; exact absurd h9 List.not_mem_nil) dX12_fits_38
    · have r_17 : Rg 0 0 x_14 := Rg.eq_l c_16 (Rg.top x_14) (Rg.c (c := 0) (k := 0) rfl) (by decide)
      refine lv_aload_n hx hb dX12_fits_18 rfl (lv_at hl 0 rfl) ?_
      refine lv_iload_n hx hb dX12_fits_19 rfl (lv_at hl 1 rfl) ?_
      refine lv_iconst (v := 0) hx hb dX12_fits_20 (by decide) ?_
      have hPc := va_P.sub (ws' := [(m0, .inr (10, (.ref mtp :: .int sta :: .int sru :: .ref msg :: .ref mln :: .ref mcl :: .ref mcs :: .ref mrd :: .int snx :: .int swr :: .int snu :: .int ste :: .int sma :: .int sde :: .int sli :: .ref mop :: .int sod :: .ref mst :: .int sto :: .ref mwd :: .ref msd :: .int sx_ :: .ref mws :: .int sun :: .ref mfr :: .ref mqu :: .ref miw :: .int sfi :: .int swa :: .long sdx :: .ref mim :: .ref mix :: .ref mmd :: []))), (msd, .inl ((cs 0), 133, .inl gsd))]) hP [0, 1] rfl
      refine cl_V (W.runV (As := [.int b, .int 0]) (rest := []) ⟨hx, hb, hml, hown, hts⟩ (c_M_buttonOf_0 l D cs m0 mtp sta sru msg mln mcl mcs mrd snx swr snu ste sma sde sli mop sod mst sto mwd msd sx_ mws sun mfr mqu miw sfi swa sdx mim mix mmd gsd b hsi r_b) ⟨callB_of 2 hts (gd_C qq_7_9) rfl rfl rfl (hT _ qq_1_9) (hT _ qq_7_6) (by decide +kernel) (rm_R rfl rfl), (hT _ qq_7_8), (hT _ qs_4_11)⟩ (pq_V hPc hK hN (ci := 10) (q0 := 0) rfl rfl) rfl rfl hl.1 rfl (lv_room (Nat.le_of_ble_eq_true rfl)) dX12_fits_21 ⟨Nat.le_of_ble_eq_true rfl, Nat.le_of_ble_eq_true rfl⟩) ?_
      refine lv_topi (fun x_23 e_24 => ?_)
      refine lv_aload_n hx hb dX12_fits_24 rfl (lv_at hl 0 rfl) ?_
      refine lv_iload_n hx hb dX12_fits_25 rfl (lv_at hl 2 rfl) ?_
      refine lv_iconst (v := 0) hx hb dX12_fits_26 (by decide) ?_
      have hPc := va_P.sub (ws' := [(m0, .inr (10, (.ref mtp :: .int sta :: .int sru :: .ref msg :: .ref mln :: .ref mcl :: .ref mcs :: .ref mrd :: .int snx :: .int swr :: .int snu :: .int ste :: .int sma :: .int sde :: .int sli :: .ref mop :: .int sod :: .ref mst :: .int sto :: .ref mwd :: .ref msd :: .int sx_ :: .ref mws :: .int sun :: .ref mfr :: .ref mqu :: .ref miw :: .int sfi :: .int swa :: .long sdx :: .ref mim :: .ref mix :: .ref mmd :: []))), (msd, .inl ((cs 0), 133, .inl gsd))]) hP [0, 1] rfl
      refine cl_V (W.runV (As := [.int h, .int 0]) (rest := [.int x_23]) ⟨hx, hb, hml, hown, hts⟩ (c_M_holeOf_0 l D cs m0 mtp sta sru msg mln mcl mcs mrd snx swr snu ste sma sde sli mop sod mst sto mwd msd sx_ mws sun mfr mqu miw sfi swa sdx mim mix mmd gsd h hsi r_h) ⟨callB_of 2 hts (gd_C qq_7_29) rfl rfl rfl (hT _ qq_1_9) (hT _ qq_7_26) (by decide +kernel) (rm_R rfl rfl), (hT _ qq_7_28), (hT _ qs_5_0)⟩ (pq_V hPc hK hN (ci := 10) (q0 := 0) rfl rfl) rfl rfl hl.1 rfl (lv_room (Nat.le_of_ble_eq_true rfl)) dX12_fits_27 ⟨Nat.le_of_ble_eq_true rfl, Nat.le_of_ble_eq_true rfl⟩) ?_
      refine lv_topi (fun x_25 e_26 => ?_)
      refine lv_icmp_ne (tgt := 37) hx hb dX12_fits_30 (by decide) (fun c_27 => ?_) (fun c_27 => ?_)
      · refine lv_iconst (v := 0) hx hb dX12_fits_37 (by decide) ?_
        exact W.zret (v := 0) (ty := .boolean) hx hb hr rfl (fun t9 ht9 hW9 => ⟨by rw [show (.int (nI (fitF gsd (cN b) (cN h))) : Value) = .int 0 from (congrArg Value.int (show nI (fitF gsd (cN b) (cN h)) = 0 from by unfold fitF; rw [if_pos (e_2.symm.trans c_3), if_pos (e_15.symm.trans c_16), if_neg (fun h9 => c_27 (e_24.trans (h9.trans e_26.symm)))]; rfl))], ht9.trans hHe⟩) (fun _ h9 => by rw [hlc] at h9; exact absurd h9 List.not_mem_nil) dX12_fits_38
      · refine lv_iconst (v := 1) hx hb dX12_fits_33 (by decide) ?_
        refine lv_goto (tgt := 38) hx hb dX12_fits_34 (by decide) ?_
        exact W.zret (v := 1) (ty := .boolean) hx hb hr rfl (fun t9 ht9 hW9 => ⟨by rw [show (.int (nI (fitF gsd (cN b) (cN h))) : Value) = .int 1 from (congrArg Value.int (show nI (fitF gsd (cN b) (cN h)) = 1 from by unfold fitF; rw [if_pos (e_2.symm.trans c_3), if_pos (e_15.symm.trans c_16), if_pos (e_24.symm.trans (c_27.trans e_26))]; rfl))], ht9.trans hHe⟩) (fun _ h9 => by rw [hlc] at h9; exact absurd h9 List.not_mem_nil) dX12_fits_38
theorem dX12_canBeRight_0 : decode cX12_canBeRight 0 = .ok (.iload_n 1, 1) := by decide +kernel
theorem dX12_canBeRight_1 : decode cX12_canBeRight 1 = .ok (.aload_n 0, 1) := by decide +kernel
theorem dX12_canBeRight_2 : decode cX12_canBeRight 2 = .ok (.getfield 39, 3) := by decide +kernel
theorem dX12_canBeRight_5 : decode cX12_canBeRight 5 = .ok (.iconst 1, 1) := by decide +kernel
theorem dX12_canBeRight_6 : decode cX12_canBeRight 6 = .ok (.iaload, 1) := by decide +kernel
theorem dX12_canBeRight_7 : decode cX12_canBeRight 7 = .ok (.if_icmp .ge 16, 3) := by decide +kernel
theorem dX12_canBeRight_23 : decode cX12_canBeRight 23 = .ok (.iconst 0, 1) := by decide +kernel
theorem dX12_canBeRight_24 : decode cX12_canBeRight 24 = .ok (.ireturn, 1) := by decide +kernel
theorem dX12_canBeRight_10 : decode cX12_canBeRight 10 = .ok (.aload_n 0, 1) := by decide +kernel
theorem dX12_canBeRight_11 : decode cX12_canBeRight 11 = .ok (.iload_n 1, 1) := by decide +kernel
theorem dX12_canBeRight_12 : decode cX12_canBeRight 12 = .ok (.iload_n 1, 1) := by decide +kernel
theorem dX12_canBeRight_13 : decode cX12_canBeRight 13 = .ok (.invokevirtual 326, 3) := by decide +kernel
theorem qq_7_25 : Cond.code yX12_fits cX12_fits 3 (some .boolean) ∈ TB := mk_tb (ti_7 (List.mem_of_getElem? (i := 25) rfl)) rfl
theorem qq_7_22 : Cond.methodLink "WrongHoleModel" 326 yX12_fits ∈ TB := mk_tb (ti_7 (List.mem_of_getElem? (i := 22) rfl)) rfl
theorem qq_7_24 : Cond.instanceMethod yX12_fits ∈ TB := mk_tb (ti_7 (List.mem_of_getElem? (i := 24) rfl)) rfl
theorem qs_4_15 : Cond.selects "WrongHoleModel" yX12_fits yX12_fits ∈ TB := mk_tb (ti_s (q := (yX12_fits, 33)) (List.mem_append_right _ (List.mem_append_right _ (List.mem_append_right _ (List.mem_append_right _ (List.mem_append_left _ (List.mem_of_getElem? (i := 15) rfl))))))) rfl
theorem dX12_canBeRight_16 : decode cX12_canBeRight 16 = .ok (.ifCond .eq 7, 3) := by decide +kernel
theorem dX12_canBeRight_19 : decode cX12_canBeRight 19 = .ok (.iconst 1, 1) := by decide +kernel
theorem dX12_canBeRight_20 : decode cX12_canBeRight 20 = .ok (.goto 4, 3) := by decide +kernel
set_option maxHeartbeats 4000000 in
set_option maxRecDepth 100000 in
theorem c_M_canBeRight (l : Launch) (D : va_G) (cs : Nat → ClassId) (m0 : Nat) (mtp : Nat) (sta : Int32) (sru : Int32) (msg : Nat) (mln : Nat) (mcl : Nat) (mcs : Nat) (mrd : Nat) (snx : Int32) (swr : Int32) (snu : Int32) (ste : Int32) (sma : Int32) (sde : Int32) (sli : Int32) (mop : Nat) (sod : Int32) (mst : Nat) (sto : Int32) (mwd : Nat) (msd : Nat) (sx_ : Int32) (mws : Nat) (sun : Int32) (mfr : Nat) (mqu : Nat) (miw : Nat) (sfi : Int32) (swa : Int32) (sdx : Int64) (mim : Nat) (mix : Nat) (mmd : Nat) (gsd : Nat → Int32) (b : Int32) (hsi : SI gsd) (r_b : Rg 0 7 b) : Met l yX12_canBeRight (Cond.code yX12_canBeRight cX12_canBeRight 2 (some .boolean) :: TB) (RM 2 0 0) (va_Pc [.ref m0, .int b] (PRR D cs [(m0, .inr (10, (.ref mtp :: .int sta :: .int sru :: .ref msg :: .ref mln :: .ref mcl :: .ref mcs :: .ref mrd :: .int snx :: .int swr :: .int snu :: .int ste :: .int sma :: .int sde :: .int sli :: .ref mop :: .int sod :: .ref mst :: .int sto :: .ref mwd :: .ref msd :: .int sx_ :: .ref mws :: .int sun :: .ref mfr :: .ref mqu :: .ref miw :: .int sfi :: .int swa :: .long sdx :: .ref mim :: .ref mix :: .ref mmd :: []))), (msd, .inl ((cs 0), 133, .inl gsd))])) (QP (fun v => ∃ x : Int32, v = .int x ∧ Rg 0 1 x)) 0 0 (fun _ => False) := by
  refine MER (y := yX12_canBeRight) (cc := cX12_canBeRight) (maxL := 2) (ret := (some .boolean)) (d := 2) (D := D) (cs := cs) (ws := [(m0, .inr (10, (.ref mtp :: .int sta :: .int sru :: .ref msg :: .ref mln :: .ref mcl :: .ref mcs :: .ref mrd :: .int snx :: .int swr :: .int snu :: .int ste :: .int sma :: .int sde :: .int sli :: .ref mop :: .int sod :: .ref mst :: .int sto :: .ref mwd :: .ref msd :: .int sx_ :: .ref mws :: .int sun :: .ref mfr :: .ref mqu :: .ref miw :: .int sfi :: .int swa :: .long sdx :: .ref mim :: .ref mix :: .ref mmd :: []))), (msd, .inl ((cs 0), 133, .inl gsd))]) (av := [.ref m0, .int b]) (Qc := QP (fun v => ∃ x : Int32, v = .int x ∧ Rg 0 1 x)) (by decide) (Nat.le_of_ble_eq_true rfl) ?_
  intro p e s m below meth c ls H hHe hx hb hr hml hown hts hlocks hP hK hN hl
  obtain ⟨locs, hlc⟩ : ∃ z : List Loc, z = [] := ⟨_, rfl⟩
  rw [← hlc]
  have hown : s.vm.findClass "WrongHoleModel" = some m.cls := hown
  have hT : ∀ w ∈ TB, w.before ([.ref m0, .int b] : List Value).toArray s = true := fun w h => hts w (List.mem_cons_of_mem _ h)
  have hl : lv_has ls 2 [(0, .ref m0), (1, .int b)] := hl
  have hP : va_P D vwCl [(m0, .inr (10, (.ref mtp :: .int sta :: .int sru :: .ref msg :: .ref mln :: .ref mcl :: .ref mcs :: .ref mrd :: .int snx :: .int swr :: .int snu :: .int ste :: .int sma :: .int sde :: .int sli :: .ref mop :: .int sod :: .ref mst :: .int sto :: .ref mwd :: .ref msd :: .int sx_ :: .ref mws :: .int sun :: .ref mfr :: .ref mqu :: .ref miw :: .int sfi :: .int swa :: .long sdx :: .ref mim :: .ref mix :: .ref mmd :: []))), (msd, .inl ((cs 0), 133, .inl gsd))] H := hP
  refine lv_iload_n hx hb dX12_canBeRight_0 rfl (lv_at hl 1 rfl) ?_
  refine lv_aload_n hx hb dX12_canBeRight_1 rfl (lv_at hl 0 rfl) ?_
  refine va_get (D := D) (ci := 10) (v := .ref msd) (C := "WrongHoleModel") (T := TX12) (N := 33) hx hb hts (iq_RX12 _) hown hK hP 0 rfl rfl 20 (by decide) (hT _ qq_5_172) (fun _ h9 => h9) rfl dX12_canBeRight_2 ?_
  refine lv_iconst (v := 1) hx hb dX12_canBeRight_5 (by decide) ?_
  have hi_1 : vp_in 1 133 := vi_c rfl
  refine va_iald hx hb hK hP 1 0 rfl rfl hi_1 dX12_canBeRight_6 ?_
  refine lv_topi (fun x_2 e_3 => ?_)
  have r_4 : Rg 0 8 x_2 := Rg.of e_3 (hsi.a1)
  refine lv_icmp_ge (tgt := 23) hx hb dX12_canBeRight_7 (by decide) (fun c_5 => ?_) (fun c_5 => ?_)
  · have r_6 : Rg 0 7 x_2 := Rg.le_l c_5 r_4 r_b (by decide)
    refine lv_iconst (v := 0) hx hb dX12_canBeRight_23 (by decide) ?_
    exact W.zret (v := 0) (ty := .boolean) hx hb hr rfl (fun t9 ht9 hW9 => ⟨⟨_, rfl, _, rfl, (Rg.wk (lo2 := 0) (hi2 := 1) (Rg.c (c := 0) (k := 0) rfl) (by decide))⟩, ht9.trans hHe⟩) (fun _ h9 => by rw [hlc] at h9; exact absurd h9 List.not_mem_nil) dX12_canBeRight_24
  · have r_7 : Rg 1 8 x_2 := Rg.lt_r (nle_lt c_5) r_b r_4 (by decide)
    refine lv_aload_n hx hb dX12_canBeRight_10 rfl (lv_at hl 0 rfl) ?_
    refine lv_iload_n hx hb dX12_canBeRight_11 rfl (lv_at hl 1 rfl) ?_
    refine lv_iload_n hx hb dX12_canBeRight_12 rfl (lv_at hl 1 rfl) ?_
    have hPc := va_P.sub (ws' := [(m0, .inr (10, (.ref mtp :: .int sta :: .int sru :: .ref msg :: .ref mln :: .ref mcl :: .ref mcs :: .ref mrd :: .int snx :: .int swr :: .int snu :: .int ste :: .int sma :: .int sde :: .int sli :: .ref mop :: .int sod :: .ref mst :: .int sto :: .ref mwd :: .ref msd :: .int sx_ :: .ref mws :: .int sun :: .ref mfr :: .ref mqu :: .ref miw :: .int sfi :: .int swa :: .long sdx :: .ref mim :: .ref mix :: .ref mmd :: []))), (msd, .inl ((cs 0), 133, .inl gsd))]) hP [0, 1] rfl
    refine cl_V (W.runV (As := [.int b, .int b]) (rest := []) ⟨hx, hb, hml, hown, hts⟩ (c_M_fits l D cs m0 mtp sta sru msg mln mcl mcs mrd snx swr snu ste sma sde sli mop sod mst sto mwd msd sx_ mws sun mfr mqu miw sfi swa sdx mim mix mmd gsd b b hsi r_b r_b) ⟨callB_of 2 hts (gd_C qq_7_25) rfl rfl rfl (hT _ qq_1_9) (hT _ qq_7_22) (by decide +kernel) (rm_R rfl rfl), (hT _ qq_7_24), (hT _ qs_4_15)⟩ (pq_V hPc hK hN (ci := 10) (q0 := 0) rfl rfl) rfl rfl hl.1 rfl (lv_room (Nat.le_of_ble_eq_true rfl)) dX12_canBeRight_13 ⟨Nat.le_of_ble_eq_true rfl, Nat.le_of_ble_eq_true rfl⟩) ?_
    refine lv_topi (fun x_14 e_15 => ?_)
    have r_16 : Rg 0 1 x_14 := Rg.of e_15 (fit_rg _ _ _)
    refine lv_if_eq (tgt := 23) hx hb dX12_canBeRight_16 (by decide) (fun c_17 => ?_) (fun c_17 => ?_)
    · have r_18 : Rg 0 0 x_14 := Rg.eq_l c_17 r_16 (Rg.c (c := 0) (k := 0) rfl) (by decide)
      refine lv_iconst (v := 0) hx hb dX12_canBeRight_23 (by decide) ?_
      exact W.zret (v := 0) (ty := .boolean) hx hb hr rfl (fun t9 ht9 hW9 => ⟨⟨_, rfl, _, rfl, (Rg.wk (lo2 := 0) (hi2 := 1) (Rg.c (c := 0) (k := 0) rfl) (by decide))⟩, ht9.trans hHe⟩) (fun _ h9 => by rw [hlc] at h9; exact absurd h9 List.not_mem_nil) dX12_canBeRight_24
    · have r_19 : Rg 1 1 x_14 := Rg.ne c_17 r_16 (Rg.c (c := 0) (k := 0) rfl) (by decide)
      refine lv_iconst (v := 1) hx hb dX12_canBeRight_19 (by decide) ?_
      refine lv_goto (tgt := 24) hx hb dX12_canBeRight_20 (by decide) ?_
      exact W.zret (v := 1) (ty := .boolean) hx hb hr rfl (fun t9 ht9 hW9 => ⟨⟨_, rfl, _, rfl, (Rg.wk (lo2 := 0) (hi2 := 1) (Rg.c (c := 1) (k := 1) rfl) (by decide))⟩, ht9.trans hHe⟩) (fun _ h9 => by rw [hlc] at h9; exact absurd h9 List.not_mem_nil) dX12_canBeRight_24
theorem dX12_tieOf_0 : decode cX12_tieOf 0 = .ok (.iload_n 1, 1) := by decide +kernel
theorem dX12_tieOf_1 : decode cX12_tieOf 1 = .ok (.aload_n 0, 1) := by decide +kernel
theorem dX12_tieOf_2 : decode cX12_tieOf 2 = .ok (.getfield 39, 3) := by decide +kernel
theorem dX12_tieOf_5 : decode cX12_tieOf 5 = .ok (.iconst 4, 1) := by decide +kernel
theorem dX12_tieOf_6 : decode cX12_tieOf 6 = .ok (.iaload, 1) := by decide +kernel
theorem dX12_tieOf_7 : decode cX12_tieOf 7 = .ok (.if_icmp .ge 12, 3) := by decide +kernel
theorem dX12_tieOf_19 : decode cX12_tieOf 19 = .ok (.iconst 0, 1) := by decide +kernel
theorem dX12_tieOf_20 : decode cX12_tieOf 20 = .ok (.ireturn, 1) := by decide +kernel
theorem dX12_tieOf_10 : decode cX12_tieOf 10 = .ok (.aload_n 0, 1) := by decide +kernel
theorem dX12_tieOf_11 : decode cX12_tieOf 11 = .ok (.getfield 39, 3) := by decide +kernel
theorem dX12_tieOf_14 : decode cX12_tieOf 14 = .ok (.iconst 5, 1) := by decide +kernel
theorem dX12_tieOf_15 : decode cX12_tieOf 15 = .ok (.iaload, 1) := by decide +kernel
theorem dX12_tieOf_16 : decode cX12_tieOf 16 = .ok (.goto 4, 3) := by decide +kernel
set_option maxHeartbeats 4000000 in
set_option maxRecDepth 100000 in
theorem c_M_tieOf (l : Launch) (D : va_G) (cs : Nat → ClassId) (m0 : Nat) (mtp : Nat) (sta : Int32) (sru : Int32) (msg : Nat) (mln : Nat) (mcl : Nat) (mcs : Nat) (mrd : Nat) (snx : Int32) (swr : Int32) (snu : Int32) (ste : Int32) (sma : Int32) (sde : Int32) (sli : Int32) (mop : Nat) (sod : Int32) (mst : Nat) (sto : Int32) (mwd : Nat) (msd : Nat) (sx_ : Int32) (mws : Nat) (sun : Int32) (mfr : Nat) (mqu : Nat) (miw : Nat) (sfi : Int32) (swa : Int32) (sdx : Int64) (mim : Nat) (mix : Nat) (mmd : Nat) (gsd : Nat → Int32) (b : Int32) (hsi : SI gsd) : Met l yX12_tieOf (Cond.code yX12_tieOf cX12_tieOf 2 (some .int) :: TB) (RM 0 0 0) (va_Pc [.ref m0, .int b] (PRR D cs [(m0, .inr (10, (.ref mtp :: .int sta :: .int sru :: .ref msg :: .ref mln :: .ref mcl :: .ref mcs :: .ref mrd :: .int snx :: .int swr :: .int snu :: .int ste :: .int sma :: .int sde :: .int sli :: .ref mop :: .int sod :: .ref mst :: .int sto :: .ref mwd :: .ref msd :: .int sx_ :: .ref mws :: .int sun :: .ref mfr :: .ref mqu :: .ref miw :: .int sfi :: .int swa :: .long sdx :: .ref mim :: .ref mix :: .ref mmd :: []))), (msd, .inl ((cs 0), 133, .inl gsd))])) (QP (fun v => ∃ x : Int32, v = .int x ∧ Rg 0 20 x)) 0 0 (fun _ => False) := by
  refine MER (y := yX12_tieOf) (cc := cX12_tieOf) (maxL := 2) (ret := (some .int)) (d := 0) (D := D) (cs := cs) (ws := [(m0, .inr (10, (.ref mtp :: .int sta :: .int sru :: .ref msg :: .ref mln :: .ref mcl :: .ref mcs :: .ref mrd :: .int snx :: .int swr :: .int snu :: .int ste :: .int sma :: .int sde :: .int sli :: .ref mop :: .int sod :: .ref mst :: .int sto :: .ref mwd :: .ref msd :: .int sx_ :: .ref mws :: .int sun :: .ref mfr :: .ref mqu :: .ref miw :: .int sfi :: .int swa :: .long sdx :: .ref mim :: .ref mix :: .ref mmd :: []))), (msd, .inl ((cs 0), 133, .inl gsd))]) (av := [.ref m0, .int b]) (Qc := QP (fun v => ∃ x : Int32, v = .int x ∧ Rg 0 20 x)) (by decide) (Nat.le_of_ble_eq_true rfl) ?_
  intro p e s m below meth c ls H hHe hx hb hr hml hown hts hlocks hP hK hN hl
  obtain ⟨locs, hlc⟩ : ∃ z : List Loc, z = [] := ⟨_, rfl⟩
  rw [← hlc]
  have hown : s.vm.findClass "WrongHoleModel" = some m.cls := hown
  have hT : ∀ w ∈ TB, w.before ([.ref m0, .int b] : List Value).toArray s = true := fun w h => hts w (List.mem_cons_of_mem _ h)
  have hl : lv_has ls 2 [(0, .ref m0), (1, .int b)] := hl
  have hP : va_P D vwCl [(m0, .inr (10, (.ref mtp :: .int sta :: .int sru :: .ref msg :: .ref mln :: .ref mcl :: .ref mcs :: .ref mrd :: .int snx :: .int swr :: .int snu :: .int ste :: .int sma :: .int sde :: .int sli :: .ref mop :: .int sod :: .ref mst :: .int sto :: .ref mwd :: .ref msd :: .int sx_ :: .ref mws :: .int sun :: .ref mfr :: .ref mqu :: .ref miw :: .int sfi :: .int swa :: .long sdx :: .ref mim :: .ref mix :: .ref mmd :: []))), (msd, .inl ((cs 0), 133, .inl gsd))] H := hP
  refine lv_iload_n hx hb dX12_tieOf_0 rfl (lv_at hl 1 rfl) ?_
  refine lv_aload_n hx hb dX12_tieOf_1 rfl (lv_at hl 0 rfl) ?_
  refine va_get (D := D) (ci := 10) (v := .ref msd) (C := "WrongHoleModel") (T := TX12) (N := 33) hx hb hts (iq_RX12 _) hown hK hP 0 rfl rfl 20 (by decide) (hT _ qq_5_172) (fun _ h9 => h9) rfl dX12_tieOf_2 ?_
  refine lv_iconst (v := 4) hx hb dX12_tieOf_5 (by decide) ?_
  have hi_1 : vp_in 4 133 := vi_c rfl
  refine va_iald hx hb hK hP 1 0 rfl rfl hi_1 dX12_tieOf_6 ?_
  refine lv_topi (fun x_2 e_3 => ?_)
  have r_4 : Rg 0 8 x_2 := Rg.of e_3 (hsi.a4)
  refine lv_icmp_ge (tgt := 19) hx hb dX12_tieOf_7 (by decide) (fun c_5 => ?_) (fun c_5 => ?_)
  · have r_6 : Rg 0 2147483647 b := Rg.le_r c_5 r_4 (Rg.top b) (by decide)
    refine lv_iconst (v := 0) hx hb dX12_tieOf_19 (by decide) ?_
    exact W.iret (v := 0) hx hb hr (fun t9 ht9 hW9 => ⟨⟨_, rfl, _, rfl, (Rg.wk (lo2 := 0) (hi2 := 20) (Rg.c (c := 0) (k := 0) rfl) (by decide))⟩, ht9.trans hHe⟩) (fun _ h9 => by rw [hlc] at h9; exact absurd h9 List.not_mem_nil) dX12_tieOf_20
  · have r_7 : Rg (-2147483648) 7 b := Rg.lt_l (nle_lt c_5) (Rg.top b) r_4 (by decide)
    refine lv_aload_n hx hb dX12_tieOf_10 rfl (lv_at hl 0 rfl) ?_
    refine va_get (D := D) (ci := 10) (v := .ref msd) (C := "WrongHoleModel") (T := TX12) (N := 33) hx hb hts (iq_RX12 _) hown hK hP 0 rfl rfl 20 (by decide) (hT _ qq_5_172) (fun _ h9 => h9) rfl dX12_tieOf_11 ?_
    refine lv_iconst (v := 5) hx hb dX12_tieOf_14 (by decide) ?_
    have hi_11 : vp_in 5 133 := vi_c rfl
    refine va_iald hx hb hK hP 1 0 rfl rfl hi_11 dX12_tieOf_15 ?_
    refine lv_topi (fun x_12 e_13 => ?_)
    have r_14 : Rg 0 20 x_12 := Rg.of e_13 (hsi.a5)
    refine lv_goto (tgt := 20) hx hb dX12_tieOf_16 (by decide) ?_
    exact W.iret (v := x_12) hx hb hr (fun t9 ht9 hW9 => ⟨⟨_, rfl, _, rfl, r_14⟩, ht9.trans hHe⟩) (fun _ h9 => by rw [hlc] at h9; exact absurd h9 List.not_mem_nil) dX12_tieOf_20
theorem dX12_timeOf_0 : decode cX12_timeOf 0 = .ok (.iload_n 1, 1) := by decide +kernel
theorem dX12_timeOf_1 : decode cX12_timeOf 1 = .ok (.bipush 8, 2) := by decide +kernel
theorem dX12_timeOf_3 : decode cX12_timeOf 3 = .ok (.if_icmp .ge 18, 3) := by decide +kernel
theorem dX12_timeOf_21 : decode cX12_timeOf 21 = .ok (.aload_n 0, 1) := by decide +kernel
theorem dX12_timeOf_22 : decode cX12_timeOf 22 = .ok (.iload_n 1, 1) := by decide +kernel
theorem dX12_timeOf_23 : decode cX12_timeOf 23 = .ok (.bipush 8, 2) := by decide +kernel
theorem dX12_timeOf_25 : decode cX12_timeOf 25 = .ok (.idiv, 1) := by decide +kernel
theorem dX12_timeOf_26 : decode cX12_timeOf 26 = .ok (.iconst 1, 1) := by decide +kernel
theorem dX12_timeOf_27 : decode cX12_timeOf 27 = .ok (.isub, 1) := by decide +kernel
theorem dX12_timeOf_28 : decode cX12_timeOf 28 = .ok (.iconst 3, 1) := by decide +kernel
theorem dX12_timeOf_29 : decode cX12_timeOf 29 = .ok (.invokevirtual 319, 3) := by decide +kernel
theorem dX12_timeOf_32 : decode cX12_timeOf 32 = .ok (.aload_n 0, 1) := by decide +kernel
theorem dX12_timeOf_33 : decode cX12_timeOf 33 = .ok (.iload_n 1, 1) := by decide +kernel
theorem dX12_timeOf_34 : decode cX12_timeOf 34 = .ok (.bipush 8, 2) := by decide +kernel
theorem dX12_timeOf_36 : decode cX12_timeOf 36 = .ok (.idiv, 1) := by decide +kernel
theorem dX12_timeOf_37 : decode cX12_timeOf 37 = .ok (.iconst 1, 1) := by decide +kernel
theorem dX12_timeOf_38 : decode cX12_timeOf 38 = .ok (.isub, 1) := by decide +kernel
theorem dX12_timeOf_39 : decode cX12_timeOf 39 = .ok (.invokevirtual 329, 3) := by decide +kernel
theorem qq_7_13 : Cond.code yX12_tieOf cX12_tieOf 2 (some .int) ∈ TB := mk_tb (ti_7 (List.mem_of_getElem? (i := 13) rfl)) rfl
theorem qq_7_10 : Cond.methodLink "WrongHoleModel" 329 yX12_tieOf ∈ TB := mk_tb (ti_7 (List.mem_of_getElem? (i := 10) rfl)) rfl
theorem qq_7_12 : Cond.instanceMethod yX12_tieOf ∈ TB := mk_tb (ti_7 (List.mem_of_getElem? (i := 12) rfl)) rfl
theorem qs_4_12 : Cond.selects "WrongHoleModel" yX12_tieOf yX12_tieOf ∈ TB := mk_tb (ti_s (q := (yX12_tieOf, 33)) (List.mem_append_right _ (List.mem_append_right _ (List.mem_append_right _ (List.mem_append_right _ (List.mem_append_left _ (List.mem_of_getElem? (i := 12) rfl))))))) rfl
theorem dX12_timeOf_42 : decode cX12_timeOf 42 = .ok (.iadd, 1) := by decide +kernel
theorem dX12_timeOf_43 : decode cX12_timeOf 43 = .ok (.ireturn, 1) := by decide +kernel
theorem dX12_timeOf_6 : decode cX12_timeOf 6 = .ok (.aload_n 0, 1) := by decide +kernel
theorem dX12_timeOf_7 : decode cX12_timeOf 7 = .ok (.iload_n 1, 1) := by decide +kernel
theorem dX12_timeOf_8 : decode cX12_timeOf 8 = .ok (.iconst 2, 1) := by decide +kernel
theorem dX12_timeOf_9 : decode cX12_timeOf 9 = .ok (.invokevirtual 319, 3) := by decide +kernel
theorem dX12_timeOf_12 : decode cX12_timeOf 12 = .ok (.aload_n 0, 1) := by decide +kernel
theorem dX12_timeOf_13 : decode cX12_timeOf 13 = .ok (.iload_n 1, 1) := by decide +kernel
theorem dX12_timeOf_14 : decode cX12_timeOf 14 = .ok (.invokevirtual 329, 3) := by decide +kernel
theorem dX12_timeOf_17 : decode cX12_timeOf 17 = .ok (.iadd, 1) := by decide +kernel
theorem dX12_timeOf_18 : decode cX12_timeOf 18 = .ok (.goto 25, 3) := by decide +kernel
set_option maxHeartbeats 4000000 in
set_option maxRecDepth 100000 in
theorem c_M_timeOf (l : Launch) (D : va_G) (cs : Nat → ClassId) (m0 : Nat) (mtp : Nat) (sta : Int32) (sru : Int32) (msg : Nat) (mln : Nat) (mcl : Nat) (mcs : Nat) (mrd : Nat) (snx : Int32) (swr : Int32) (snu : Int32) (ste : Int32) (sma : Int32) (sde : Int32) (sli : Int32) (mop : Nat) (sod : Int32) (mst : Nat) (sto : Int32) (mwd : Nat) (msd : Nat) (sx_ : Int32) (mws : Nat) (sun : Int32) (mfr : Nat) (mqu : Nat) (miw : Nat) (sfi : Int32) (swa : Int32) (sdx : Int64) (mim : Nat) (mix : Nat) (mmd : Nat) (gsd : Nat → Int32) (b : Int32) (hsi : SI gsd) (r_b : Rg 0 71 b) (hpos : 0 < Int32.toInt (gsd 0)) : Met l yX12_timeOf (Cond.code yX12_timeOf cX12_timeOf 2 (some .int) :: TB) (RM 1 0 0) (va_Pc [.ref m0, .int b] (PRR D cs [(m0, .inr (10, (.ref mtp :: .int sta :: .int sru :: .ref msg :: .ref mln :: .ref mcl :: .ref mcs :: .ref mrd :: .int snx :: .int swr :: .int snu :: .int ste :: .int sma :: .int sde :: .int sli :: .ref mop :: .int sod :: .ref mst :: .int sto :: .ref mwd :: .ref msd :: .int sx_ :: .ref mws :: .int sun :: .ref mfr :: .ref mqu :: .ref miw :: .int sfi :: .int swa :: .long sdx :: .ref mim :: .ref mix :: .ref mmd :: []))), (msd, .inl ((cs 0), 133, .inl gsd))])) (QP (fun v => ∃ x : Int32, v = .int x ∧ Rg 1 40 x)) 0 0 (fun _ => False) := by
  refine MER (y := yX12_timeOf) (cc := cX12_timeOf) (maxL := 2) (ret := (some .int)) (d := 1) (D := D) (cs := cs) (ws := [(m0, .inr (10, (.ref mtp :: .int sta :: .int sru :: .ref msg :: .ref mln :: .ref mcl :: .ref mcs :: .ref mrd :: .int snx :: .int swr :: .int snu :: .int ste :: .int sma :: .int sde :: .int sli :: .ref mop :: .int sod :: .ref mst :: .int sto :: .ref mwd :: .ref msd :: .int sx_ :: .ref mws :: .int sun :: .ref mfr :: .ref mqu :: .ref miw :: .int sfi :: .int swa :: .long sdx :: .ref mim :: .ref mix :: .ref mmd :: []))), (msd, .inl ((cs 0), 133, .inl gsd))]) (av := [.ref m0, .int b]) (Qc := QP (fun v => ∃ x : Int32, v = .int x ∧ Rg 1 40 x)) (by decide) (Nat.le_of_ble_eq_true rfl) ?_
  intro p e s m below meth c ls H hHe hx hb hr hml hown hts hlocks hP hK hN hl
  obtain ⟨locs, hlc⟩ : ∃ z : List Loc, z = [] := ⟨_, rfl⟩
  rw [← hlc]
  have hown : s.vm.findClass "WrongHoleModel" = some m.cls := hown
  have hT : ∀ w ∈ TB, w.before ([.ref m0, .int b] : List Value).toArray s = true := fun w h => hts w (List.mem_cons_of_mem _ h)
  have hl : lv_has ls 2 [(0, .ref m0), (1, .int b)] := hl
  have hP : va_P D vwCl [(m0, .inr (10, (.ref mtp :: .int sta :: .int sru :: .ref msg :: .ref mln :: .ref mcl :: .ref mcs :: .ref mrd :: .int snx :: .int swr :: .int snu :: .int ste :: .int sma :: .int sde :: .int sli :: .ref mop :: .int sod :: .ref mst :: .int sto :: .ref mwd :: .ref msd :: .int sx_ :: .ref mws :: .int sun :: .ref mfr :: .ref mqu :: .ref miw :: .int sfi :: .int swa :: .long sdx :: .ref mim :: .ref mix :: .ref mmd :: []))), (msd, .inl ((cs 0), 133, .inl gsd))] H := hP
  refine lv_iload_n hx hb dX12_timeOf_0 rfl (lv_at hl 1 rfl) ?_
  refine lv_bipush (v := 8) hx hb dX12_timeOf_1 (by decide) ?_
  refine lv_icmp_ge (tgt := 21) hx hb dX12_timeOf_3 (by decide) (fun c_1 => ?_) (fun c_1 => ?_)
  · have r_2 : Rg 8 71 b := Rg.le_r c_1 (Rg.c (c := 8) (k := 8) rfl) r_b (by decide)
    refine lv_aload_n hx hb dX12_timeOf_21 rfl (lv_at hl 0 rfl) ?_
    refine lv_iload_n hx hb dX12_timeOf_22 rfl (lv_at hl 1 rfl) ?_
    refine lv_bipush (v := 8) hx hb dX12_timeOf_23 (by decide) ?_
    refine lv_idiv hx hb dX12_timeOf_25 (by decide) ?_
    refine lv_topi (fun x_32 e_33 => ?_)
    have r_34 : Rg 1 8 x_32 := Rg.divL (al := 8) (ah := 71) (k := 8) e_33 r_2 (Rg.c (c := 8) (k := 8) rfl) (by decide) (by decide) (by decide)
    refine lv_iconst (v := 1) hx hb dX12_timeOf_26 (by decide) ?_
    refine lv_isub hx hb dX12_timeOf_27 ?_
    refine lv_topi (fun x_35 e_36 => ?_)
    have r_37 : Rg 0 7 x_35 := Rg.sub e_36 r_34 (Rg.c (c := 1) (k := 1) rfl) (by decide)
    refine lv_iconst (v := 3) hx hb dX12_timeOf_28 (by decide) ?_
    have hPc := va_P.sub (ws' := [(m0, .inr (10, (.ref mtp :: .int sta :: .int sru :: .ref msg :: .ref mln :: .ref mcl :: .ref mcs :: .ref mrd :: .int snx :: .int swr :: .int snu :: .int ste :: .int sma :: .int sde :: .int sli :: .ref mop :: .int sod :: .ref mst :: .int sto :: .ref mwd :: .ref msd :: .int sx_ :: .ref mws :: .int sun :: .ref mfr :: .ref mqu :: .ref miw :: .int sfi :: .int swa :: .long sdx :: .ref mim :: .ref mix :: .ref mmd :: []))), (msd, .inl ((cs 0), 133, .inl gsd))]) hP [0, 1] rfl
    refine cl_V (W.runV (As := [.int x_35, .int 3]) (rest := []) ⟨hx, hb, hml, hown, hts⟩ (c_M_buttonOf_3 l D cs m0 mtp sta sru msg mln mcl mcs mrd snx swr snu ste sma sde sli mop sod mst sto mwd msd sx_ mws sun mfr mqu miw sfi swa sdx mim mix mmd gsd x_35 hsi r_37) ⟨callB_of 2 hts (gd_C qq_7_9) rfl rfl rfl (hT _ qq_1_9) (hT _ qq_7_6) (by decide +kernel) (rm_R rfl rfl), (hT _ qq_7_8), (hT _ qs_4_11)⟩ (pq_V hPc hK hN (ci := 10) (q0 := 0) rfl rfl) rfl rfl hl.1 rfl (lv_room (Nat.le_of_ble_eq_true rfl)) dX12_timeOf_29 ⟨Nat.le_of_ble_eq_true rfl, Nat.le_of_ble_eq_true rfl⟩) ?_
    refine lv_topi (fun x_38 e_39 => ?_)
    have r_40 : Rg 1 20 x_38 := Rg.of e_39 (hsi.at_tm _ (cN_lt r_37 (by decide)) hpos).2
    refine lv_aload_n hx hb dX12_timeOf_32 rfl (lv_at hl 0 rfl) ?_
    refine lv_iload_n hx hb dX12_timeOf_33 rfl (lv_at hl 1 rfl) ?_
    refine lv_bipush (v := 8) hx hb dX12_timeOf_34 (by decide) ?_
    refine lv_idiv hx hb dX12_timeOf_36 (by decide) ?_
    refine lv_topi (fun x_41 e_42 => ?_)
    have r_43 : Rg 1 8 x_41 := Rg.divL (al := 8) (ah := 71) (k := 8) e_42 r_2 (Rg.c (c := 8) (k := 8) rfl) (by decide) (by decide) (by decide)
    refine lv_iconst (v := 1) hx hb dX12_timeOf_37 (by decide) ?_
    refine lv_isub hx hb dX12_timeOf_38 ?_
    refine lv_topi (fun x_44 e_45 => ?_)
    have r_46 : Rg 0 7 x_44 := Rg.sub e_45 r_43 (Rg.c (c := 1) (k := 1) rfl) (by decide)
    have hPc := va_P.sub (ws' := [(m0, .inr (10, (.ref mtp :: .int sta :: .int sru :: .ref msg :: .ref mln :: .ref mcl :: .ref mcs :: .ref mrd :: .int snx :: .int swr :: .int snu :: .int ste :: .int sma :: .int sde :: .int sli :: .ref mop :: .int sod :: .ref mst :: .int sto :: .ref mwd :: .ref msd :: .int sx_ :: .ref mws :: .int sun :: .ref mfr :: .ref mqu :: .ref miw :: .int sfi :: .int swa :: .long sdx :: .ref mim :: .ref mix :: .ref mmd :: []))), (msd, .inl ((cs 0), 133, .inl gsd))]) hP [0, 1] rfl
    refine cl_P (W.runV (As := [.int x_44]) (rest := [.int x_38]) ⟨hx, hb, hml, hown, hts⟩ (c_M_tieOf l D cs m0 mtp sta sru msg mln mcl mcs mrd snx swr snu ste sma sde sli mop sod mst sto mwd msd sx_ mws sun mfr mqu miw sfi swa sdx mim mix mmd gsd x_44 hsi) ⟨callB_of 1 hts (gd_C qq_7_13) rfl rfl rfl (hT _ qq_1_9) (hT _ qq_7_10) (by decide +kernel) (rm_R rfl rfl), (hT _ qq_7_12), (hT _ qs_4_12)⟩ (pq_V hPc hK hN (ci := 10) (q0 := 0) rfl rfl) rfl rfl hl.1 rfl (lv_room (Nat.le_of_ble_eq_true rfl)) dX12_timeOf_39 ⟨Nat.le_of_ble_eq_true rfl, Nat.le_of_ble_eq_true rfl⟩) (fun v9 hz_48 => ?_)
    obtain ⟨x_47, rfl, r_49⟩ := hz_48
    refine lv_iadd hx hb dX12_timeOf_42 ?_
    refine lv_topi (fun x_50 e_51 => ?_)
    have r_52 : Rg 1 40 x_50 := Rg.add e_51 r_40 r_49 (by decide)
    exact W.iret (v := x_50) hx hb hr (fun t9 ht9 hW9 => ⟨⟨_, rfl, _, rfl, r_52⟩, ht9.trans hHe⟩) (fun _ h9 => by rw [hlc] at h9; exact absurd h9 List.not_mem_nil) dX12_timeOf_43
  · have r_3 : Rg 0 7 b := Rg.lt_l (nle_lt c_1) r_b (Rg.c (c := 8) (k := 8) rfl) (by decide)
    refine lv_aload_n hx hb dX12_timeOf_6 rfl (lv_at hl 0 rfl) ?_
    refine lv_iload_n hx hb dX12_timeOf_7 rfl (lv_at hl 1 rfl) ?_
    refine lv_iconst (v := 2) hx hb dX12_timeOf_8 (by decide) ?_
    have hPc := va_P.sub (ws' := [(m0, .inr (10, (.ref mtp :: .int sta :: .int sru :: .ref msg :: .ref mln :: .ref mcl :: .ref mcs :: .ref mrd :: .int snx :: .int swr :: .int snu :: .int ste :: .int sma :: .int sde :: .int sli :: .ref mop :: .int sod :: .ref mst :: .int sto :: .ref mwd :: .ref msd :: .int sx_ :: .ref mws :: .int sun :: .ref mfr :: .ref mqu :: .ref miw :: .int sfi :: .int swa :: .long sdx :: .ref mim :: .ref mix :: .ref mmd :: []))), (msd, .inl ((cs 0), 133, .inl gsd))]) hP [0, 1] rfl
    refine cl_V (W.runV (As := [.int b, .int 2]) (rest := []) ⟨hx, hb, hml, hown, hts⟩ (c_M_buttonOf_2 l D cs m0 mtp sta sru msg mln mcl mcs mrd snx swr snu ste sma sde sli mop sod mst sto mwd msd sx_ mws sun mfr mqu miw sfi swa sdx mim mix mmd gsd b hsi r_3) ⟨callB_of 2 hts (gd_C qq_7_9) rfl rfl rfl (hT _ qq_1_9) (hT _ qq_7_6) (by decide +kernel) (rm_R rfl rfl), (hT _ qq_7_8), (hT _ qs_4_11)⟩ (pq_V hPc hK hN (ci := 10) (q0 := 0) rfl rfl) rfl rfl hl.1 rfl (lv_room (Nat.le_of_ble_eq_true rfl)) dX12_timeOf_9 ⟨Nat.le_of_ble_eq_true rfl, Nat.le_of_ble_eq_true rfl⟩) ?_
    refine lv_topi (fun x_53 e_54 => ?_)
    have r_55 : Rg 1 20 x_53 := Rg.of e_54 (hsi.at_tm _ (cN_lt r_3 (by decide)) hpos).1
    refine lv_aload_n hx hb dX12_timeOf_12 rfl (lv_at hl 0 rfl) ?_
    refine lv_iload_n hx hb dX12_timeOf_13 rfl (lv_at hl 1 rfl) ?_
    have hPc := va_P.sub (ws' := [(m0, .inr (10, (.ref mtp :: .int sta :: .int sru :: .ref msg :: .ref mln :: .ref mcl :: .ref mcs :: .ref mrd :: .int snx :: .int swr :: .int snu :: .int ste :: .int sma :: .int sde :: .int sli :: .ref mop :: .int sod :: .ref mst :: .int sto :: .ref mwd :: .ref msd :: .int sx_ :: .ref mws :: .int sun :: .ref mfr :: .ref mqu :: .ref miw :: .int sfi :: .int swa :: .long sdx :: .ref mim :: .ref mix :: .ref mmd :: []))), (msd, .inl ((cs 0), 133, .inl gsd))]) hP [0, 1] rfl
    refine cl_P (W.runV (As := [.int b]) (rest := [.int x_53]) ⟨hx, hb, hml, hown, hts⟩ (c_M_tieOf l D cs m0 mtp sta sru msg mln mcl mcs mrd snx swr snu ste sma sde sli mop sod mst sto mwd msd sx_ mws sun mfr mqu miw sfi swa sdx mim mix mmd gsd b hsi) ⟨callB_of 1 hts (gd_C qq_7_13) rfl rfl rfl (hT _ qq_1_9) (hT _ qq_7_10) (by decide +kernel) (rm_R rfl rfl), (hT _ qq_7_12), (hT _ qs_4_12)⟩ (pq_V hPc hK hN (ci := 10) (q0 := 0) rfl rfl) rfl rfl hl.1 rfl (lv_room (Nat.le_of_ble_eq_true rfl)) dX12_timeOf_14 ⟨Nat.le_of_ble_eq_true rfl, Nat.le_of_ble_eq_true rfl⟩) (fun v9 hz_57 => ?_)
    obtain ⟨x_56, rfl, r_58⟩ := hz_57
    refine lv_iadd hx hb dX12_timeOf_17 ?_
    refine lv_topi (fun x_59 e_60 => ?_)
    have r_61 : Rg 1 40 x_59 := Rg.add e_60 r_55 r_58 (by decide)
    refine lv_goto (tgt := 43) hx hb dX12_timeOf_18 (by decide) ?_
    exact W.iret (v := x_59) hx hb hr (fun t9 ht9 hW9 => ⟨⟨_, rfl, _, rfl, r_61⟩, ht9.trans hHe⟩) (fun _ h9 => by rw [hlc] at h9; exact absurd h9 List.not_mem_nil) dX12_timeOf_43
