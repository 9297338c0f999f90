theorem dX12_mayNow_0 : decode cX12_mayNow 0 = .ok (.aload_n 0, 1) := by decide +kernel
theorem dX12_mayNow_1 : decode cX12_mayNow 1 = .ok (.aload_n 0, 1) := by decide +kernel
theorem dX12_mayNow_2 : decode cX12_mayNow 2 = .ok (.invokevirtual 402, 3) := by decide +kernel
theorem qq_7_51 : Cond.code yX12_situationNow cX12_situationNow 3 (some .int) ∈ TB := mk_tb (ti_7 (List.mem_of_getElem? (i := 51) rfl)) rfl
theorem qq_7_48 : Cond.methodLink "WrongHoleModel" 402 yX12_situationNow ∈ TB := mk_tb (ti_7 (List.mem_of_getElem? (i := 48) rfl)) rfl
theorem qq_7_50 : Cond.instanceMethod yX12_situationNow ∈ TB := mk_tb (ti_7 (List.mem_of_getElem? (i := 50) rfl)) rfl
theorem qs_5_3 : Cond.selects "WrongHoleModel" yX12_situationNow yX12_situationNow ∈ TB := mk_tb (ti_s (q := (yX12_situationNow, 33)) (List.mem_append_right _ (List.mem_append_right _ (List.mem_append_right _ (List.mem_append_right _ (List.mem_append_right _ (List.mem_append_left _ (List.mem_of_getElem? (i := 3) rfl)))))))) rfl
theorem dX12_mayNow_5 : decode cX12_mayNow 5 = .ok (.iload_n 1, 1) := by decide +kernel
theorem dX12_mayNow_6 : decode cX12_mayNow 6 = .ok (.invokevirtual 413, 3) := by decide +kernel
theorem qq_7_122 : Cond.code yX12_behindLawful cX12_behindLawful 4 (some .int) ∈ TB := mk_tb (ti_7 (List.mem_of_getElem? (i := 122) rfl)) rfl
theorem qq_7_119 : Cond.methodLink "WrongHoleModel" 413 yX12_behindLawful ∈ TB := mk_tb (ti_7 (List.mem_of_getElem? (i := 119) rfl)) rfl
theorem qq_7_121 : Cond.instanceMethod yX12_behindLawful ∈ TB := mk_tb (ti_7 (List.mem_of_getElem? (i := 121) rfl)) rfl
theorem qs_5_13 : Cond.selects "WrongHoleModel" yX12_behindLawful yX12_behindLawful ∈ TB := mk_tb (ti_s (q := (yX12_behindLawful, 33)) (List.mem_append_right _ (List.mem_append_right _ (List.mem_append_right _ (List.mem_append_right _ (List.mem_append_right _ (List.mem_append_left _ (List.mem_of_getElem? (i := 13) rfl)))))))) rfl
theorem dX12_mayNow_9 : decode cX12_mayNow 9 = .ok (.ifCond .lt 25, 3) := by decide +kernel
theorem dX12_mayNow_34 : decode cX12_mayNow 34 = .ok (.iconst 0, 1) := by decide +kernel
theorem dX12_mayNow_35 : decode cX12_mayNow 35 = .ok (.ireturn, 1) := by decide +kernel
theorem dX12_mayNow_12 : decode cX12_mayNow 12 = .ok (.aload_n 0, 1) := by decide +kernel
theorem dX12_mayNow_13 : decode cX12_mayNow 13 = .ok (.getfield 39, 3) := by decide +kernel
theorem dX12_mayNow_16 : decode cX12_mayNow 16 = .ok (.iconst 3, 1) := by decide +kernel
theorem dX12_mayNow_17 : decode cX12_mayNow 17 = .ok (.iaload, 1) := by decide +kernel
theorem dX12_mayNow_18 : decode cX12_mayNow 18 = .ok (.aload_n 0, 1) := by decide +kernel
theorem dX12_mayNow_19 : decode cX12_mayNow 19 = .ok (.iload_n 1, 1) := by decide +kernel
theorem dX12_mayNow_20 : decode cX12_mayNow 20 = .ok (.invokevirtual 416, 3) := by decide +kernel
theorem qq_7_140 : Cond.code yX12_timeOf cX12_timeOf 2 (some .int) ∈ TB := mk_tb (ti_7 (List.mem_of_getElem? (i := 140) rfl)) rfl
theorem qq_7_137 : Cond.methodLink "WrongHoleModel" 416 yX12_timeOf ∈ TB := mk_tb (ti_7 (List.mem_of_getElem? (i := 137) rfl)) rfl
theorem qq_7_139 : Cond.instanceMethod yX12_timeOf ∈ TB := mk_tb (ti_7 (List.mem_of_getElem? (i := 139) rfl)) rfl
theorem qs_6_0 : Cond.selects "WrongHoleModel" yX12_timeOf yX12_timeOf ∈ TB := mk_tb (ti_s (q := (yX12_timeOf, 33)) (List.mem_append_right _ (List.mem_append_right _ (List.mem_append_right _ (List.mem_append_right _ (List.mem_append_right _ (List.mem_append_right _ (List.mem_append_left _ (List.mem_of_getElem? (i := 0) rfl))))))))) rfl
theorem dX12_mayNow_23 : decode cX12_mayNow 23 = .ok (.iadd, 1) := by decide +kernel
theorem dX12_mayNow_24 : decode cX12_mayNow 24 = .ok (.sipush 9999, 3) := by decide +kernel
theorem dX12_mayNow_27 : decode cX12_mayNow 27 = .ok (.if_icmp .gt 7, 3) := by decide +kernel
theorem dX12_mayNow_30 : decode cX12_mayNow 30 = .ok (.iconst 1, 1) := by decide +kernel
theorem dX12_mayNow_31 : decode cX12_mayNow 31 = .ok (.goto 4, 3) := by decide +kernel
set_option maxHeartbeats 4000000 in
set_option maxRecDepth 100000 in
theorem c_M_mayNow (l : Launch) (D : va_G) (cs : Nat → ClassId) (m0 : Nat) (mtp : Nat) (sta : Int32) (sru : Int32) (msg : Nat) (mln : Nat) (mcl : Nat) (mcs : Nat) (mrd : Nat) (snx : Int32) (swr : Int32) (snu : Int32) (ste : Int32) (sma : Int32) (sde : Int32) (sli : Int32) (mop : Nat) (sod : Int32) (mst : Nat) (sto : Int32) (mwd : Nat) (msd : Nat) (sx_ : Int32) (mws : Nat) (sun : Int32) (mfr : Nat) (mqu : Nat) (miw : Nat) (sfi : Int32) (swa : Int32) (sdx : Int64) (mim : Nat) (mix : Nat) (mmd : Nat) (gsd : Nat → Int32) (b : Int32) (hsi : SI gsd) (r_b : Rg 0 71 b) : Met l yX12_mayNow (Cond.code yX12_mayNow cX12_mayNow 2 (some .boolean) :: TB) (RM 6 0 0) (va_Pc [.ref m0, .int b] (PRR D cs [(m0, .inr (10, (.ref mtp :: .int sta :: .int sru :: .ref msg :: .ref mln :: .ref mcl :: .ref mcs :: .ref mrd :: .int snx :: .int swr :: .int snu :: .int ste :: .int sma :: .int sde :: .int sli :: .ref mop :: .int sod :: .ref mst :: .int sto :: .ref mwd :: .ref msd :: .int sx_ :: .ref mws :: .int sun :: .ref mfr :: .ref mqu :: .ref miw :: .int sfi :: .int swa :: .long sdx :: .ref mim :: .ref mix :: .ref mmd :: []))), (msd, .inl ((cs 0), 133, .inl gsd))])) (QP (fun v => ∃ x : Int32, v = .int x ∧ Rg 0 1 x ∧ (¬ x = 0 → MAY gsd (cN b)))) 0 0 (fun _ => False) := by
  refine MER (y := yX12_mayNow) (cc := cX12_mayNow) (maxL := 2) (ret := (some .boolean)) (d := 6) (D := D) (cs := cs) (ws := [(m0, .inr (10, (.ref mtp :: .int sta :: .int sru :: .ref msg :: .ref mln :: .ref mcl :: .ref mcs :: .ref mrd :: .int snx :: .int swr :: .int snu :: .int ste :: .int sma :: .int sde :: .int sli :: .ref mop :: .int sod :: .ref mst :: .int sto :: .ref mwd :: .ref msd :: .int sx_ :: .ref mws :: .int sun :: .ref mfr :: .ref mqu :: .ref miw :: .int sfi :: .int swa :: .long sdx :: .ref mim :: .ref mix :: .ref mmd :: []))), (msd, .inl ((cs 0), 133, .inl gsd))]) (av := [.ref m0, .int b]) (Qc := QP (fun v => ∃ x : Int32, v = .int x ∧ Rg 0 1 x ∧ (¬ x = 0 → MAY gsd (cN b)))) (by decide) (Nat.le_of_ble_eq_true rfl) ?_
  intro p e s m below meth c ls H hHe hx hb hr hml hown hts hlocks hP hK hN hl
  obtain ⟨locs, hlc⟩ : ∃ z : List Loc, z = [] := ⟨_, rfl⟩
  rw [← hlc]
  have hown : s.vm.findClass "WrongHoleModel" = some m.cls := hown
  have hT : ∀ w ∈ TB, w.before ([.ref m0, .int b] : List Value).toArray s = true := fun w h => hts w (List.mem_cons_of_mem _ h)
  have hl : lv_has ls 2 [(0, .ref m0), (1, .int b)] := hl
  have hP : va_P D vwCl [(m0, .inr (10, (.ref mtp :: .int sta :: .int sru :: .ref msg :: .ref mln :: .ref mcl :: .ref mcs :: .ref mrd :: .int snx :: .int swr :: .int snu :: .int ste :: .int sma :: .int sde :: .int sli :: .ref mop :: .int sod :: .ref mst :: .int sto :: .ref mwd :: .ref msd :: .int sx_ :: .ref mws :: .int sun :: .ref mfr :: .ref mqu :: .ref miw :: .int sfi :: .int swa :: .long sdx :: .ref mim :: .ref mix :: .ref mmd :: []))), (msd, .inl ((cs 0), 133, .inl gsd))] H := hP
  refine lv_aload_n hx hb dX12_mayNow_0 rfl (lv_at hl 0 rfl) ?_
  refine lv_aload_n hx hb dX12_mayNow_1 rfl (lv_at hl 0 rfl) ?_
  have hPc := va_P.sub (ws' := [(m0, .inr (10, (.ref mtp :: .int sta :: .int sru :: .ref msg :: .ref mln :: .ref mcl :: .ref mcs :: .ref mrd :: .int snx :: .int swr :: .int snu :: .int ste :: .int sma :: .int sde :: .int sli :: .ref mop :: .int sod :: .ref mst :: .int sto :: .ref mwd :: .ref msd :: .int sx_ :: .ref mws :: .int sun :: .ref mfr :: .ref mqu :: .ref miw :: .int sfi :: .int swa :: .long sdx :: .ref mim :: .ref mix :: .ref mmd :: []))), (msd, .inl ((cs 0), 133, .inl gsd))]) hP [0, 1] rfl
  refine cl_P (W.runV (As := []) (rest := [.ref m0]) ⟨hx, hb, hml, hown, hts⟩ (c_M_situationNow l D cs m0 mtp sta sru msg mln mcl mcs mrd snx swr snu ste sma sde sli mop sod mst sto mwd msd sx_ mws sun mfr mqu miw sfi swa sdx mim mix mmd gsd hsi) ⟨callB_of 0 hts (gd_C qq_7_51) rfl rfl rfl (hT _ qq_1_9) (hT _ qq_7_48) (by decide +kernel) (rm_R rfl rfl), (hT _ qq_7_50), (hT _ qs_5_3)⟩ (pq_V hPc hK hN (ci := 10) (q0 := 0) rfl rfl) rfl rfl hl.1 rfl (lv_room (Nat.le_of_ble_eq_true rfl)) dX12_mayNow_2 ⟨Nat.le_of_ble_eq_true rfl, Nat.le_of_ble_eq_true rfl⟩) (fun v9 hz_2 => ?_)
  obtain ⟨x_1, rfl, r_3⟩ := hz_2
  refine lv_iload_n hx hb dX12_mayNow_5 rfl (lv_at hl 1 rfl) ?_
  have hPc := va_P.sub (ws' := [(m0, .inr (10, (.ref mtp :: .int sta :: .int sru :: .ref msg :: .ref mln :: .ref mcl :: .ref mcs :: .ref mrd :: .int snx :: .int swr :: .int snu :: .int ste :: .int sma :: .int sde :: .int sli :: .ref mop :: .int sod :: .ref mst :: .int sto :: .ref mwd :: .ref msd :: .int sx_ :: .ref mws :: .int sun :: .ref mfr :: .ref mqu :: .ref miw :: .int sfi :: .int swa :: .long sdx :: .ref mim :: .ref mix :: .ref mmd :: []))), (msd, .inl ((cs 0), 133, .inl gsd))]) hP [0, 1] rfl
  refine cl_P (W.runV (As := [.int x_1, .int b]) (rest := []) ⟨hx, hb, hml, hown, hts⟩ (c_M_behindLawful l D cs m0 mtp sta sru msg mln mcl mcs mrd snx swr snu ste sma sde sli mop sod mst sto mwd msd sx_ mws sun mfr mqu miw sfi swa sdx mim mix mmd gsd x_1 b hsi r_b (r_3.1)) ⟨callB_of 2 hts (gd_C qq_7_122) rfl rfl rfl (hT _ qq_1_9) (hT _ qq_7_119) (by decide +kernel) (rm_R rfl rfl), (hT _ qq_7_121), (hT _ qs_5_13)⟩ (pq_V hPc hK hN (ci := 10) (q0 := 0) rfl rfl) rfl rfl hl.1 rfl (lv_room (Nat.le_of_ble_eq_true rfl)) dX12_mayNow_6 ⟨Nat.le_of_ble_eq_true rfl, Nat.le_of_ble_eq_true rfl⟩) (fun v9 hz_5 => ?_)
  obtain ⟨x_4, rfl, r_6⟩ := hz_5
  refine lv_if_lt (tgt := 34) hx hb dX12_mayNow_9 (by decide) (fun c_7 => ?_) (fun c_7 => ?_)
  · have r_8 : Rg (-1) (-1) x_4 := Rg.lt_l c_7 r_6.1 (Rg.c (c := 0) (k := 0) rfl) (by decide)
    refine lv_iconst (v := 0) hx hb dX12_mayNow_34 (by decide) ?_
    exact W.zret (v := 0) (ty := .boolean) hx hb hr rfl (fun t9 ht9 hW9 => ⟨⟨_, rfl, _, rfl, ⟨⟨by decide, by decide⟩, fun q9 => absurd rfl q9⟩⟩, ht9.trans hHe⟩) (fun _ h9 => by rw [hlc] at h9; exact absurd h9 List.not_mem_nil) dX12_mayNow_35
  · have r_9 : Rg 0 65535 x_4 := Rg.le_r (nlt_le c_7) (Rg.c (c := 0) (k := 0) rfl) r_6.1 (by decide)
    refine lv_aload_n hx hb dX12_mayNow_12 rfl (lv_at hl 0 rfl) ?_
    refine va_get (D := D) (ci := 10) (v := .ref msd) (C := "WrongHoleModel") (T := TX12) (N := 33) hx hb hts (iq_RX12 _) hown hK hP 0 rfl rfl 20 (by decide) (hT _ qq_5_172) (fun _ h9 => h9) rfl dX12_mayNow_13 ?_
    refine lv_iconst (v := 3) hx hb dX12_mayNow_16 (by decide) ?_
    have hi_22 : vp_in 3 133 := vi_c rfl
    refine va_iald hx hb hK hP 1 0 rfl rfl hi_22 dX12_mayNow_17 ?_
    refine lv_topi (fun x_23 e_24 => ?_)
    have r_25 : Rg 0 9999 x_23 := Rg.of e_24 (hsi.a3)
    refine lv_aload_n hx hb dX12_mayNow_18 rfl (lv_at hl 0 rfl) ?_
    refine lv_iload_n hx hb dX12_mayNow_19 rfl (lv_at hl 1 rfl) ?_
    have hPc := va_P.sub (ws' := [(m0, .inr (10, (.ref mtp :: .int sta :: .int sru :: .ref msg :: .ref mln :: .ref mcl :: .ref mcs :: .ref mrd :: .int snx :: .int swr :: .int snu :: .int ste :: .int sma :: .int sde :: .int sli :: .ref mop :: .int sod :: .ref mst :: .int sto :: .ref mwd :: .ref msd :: .int sx_ :: .ref mws :: .int sun :: .ref mfr :: .ref mqu :: .ref miw :: .int sfi :: .int swa :: .long sdx :: .ref mim :: .ref mix :: .ref mmd :: []))), (msd, .inl ((cs 0), 133, .inl gsd))]) hP [0, 1] rfl
    refine cl_V (W.runV (As := [.int b]) (rest := [.int x_23]) ⟨hx, hb, hml, hown, hts⟩ (c_M_timeE l D cs m0 mtp sta sru msg mln mcl mcs mrd snx swr snu ste sma sde sli mop sod mst sto mwd msd sx_ mws sun mfr mqu miw sfi swa sdx mim mix mmd gsd b hsi r_b ((bl_pos hsi r_6.2.1 c_7).1)) ⟨callB_of 1 hts (gd_C qq_7_140) rfl rfl rfl (hT _ qq_1_9) (hT _ qq_7_137) (by decide +kernel) (rm_R rfl rfl), (hT _ qq_7_139), (hT _ qs_6_0)⟩ (pq_V hPc hK hN (ci := 10) (q0 := 0) rfl rfl) rfl rfl hl.1 rfl (lv_room (Nat.le_of_ble_eq_true rfl)) dX12_mayNow_20 ⟨Nat.le_of_ble_eq_true rfl, Nat.le_of_ble_eq_true rfl⟩) ?_
    refine lv_topi (fun x_26 e_27 => ?_)
    have r_28 : Rg 1 40 x_26 := Rg.of e_27 (tm_rg (hsi) (bl_pos hsi r_6.2.1 c_7).1 (cN_lt (n := 72) r_b (by decide)))
    refine lv_iadd hx hb dX12_mayNow_23 ?_
    refine lv_topi (fun x_29 e_30 => ?_)
    have r_31 : Rg 1 10039 x_29 := Rg.add e_30 r_25 r_28 (by decide)
    refine lv_sipush (v := 9999) hx hb dX12_mayNow_24 (by decide) ?_
    refine lv_icmp_gt (tgt := 34) hx hb dX12_mayNow_27 (by decide) (fun c_32 => ?_) (fun c_32 => ?_)
    · have r_33 : Rg 10000 10039 x_29 := Rg.lt_r c_32 (Rg.c (c := 9999) (k := 9999) rfl) r_31 (by decide)
      refine lv_iconst (v := 0) hx hb dX12_mayNow_34 (by decide) ?_
      exact W.zret (v := 0) (ty := .boolean) hx hb hr rfl (fun t9 ht9 hW9 => ⟨⟨_, rfl, _, rfl, ⟨⟨by decide, by decide⟩, fun q9 => absurd rfl q9⟩⟩, ht9.trans hHe⟩) (fun _ h9 => by rw [hlc] at h9; exact absurd h9 List.not_mem_nil) dX12_mayNow_35
    · have r_34 : Rg 1 9999 x_29 := Rg.le_l (nlt_le c_32) r_31 (Rg.c (c := 9999) (k := 9999) rfl) (by decide)
      refine lv_iconst (v := 1) hx hb dX12_mayNow_30 (by decide) ?_
      refine lv_goto (tgt := 35) hx hb dX12_mayNow_31 (by decide) ?_
      exact W.zret (v := 1) (ty := .boolean) hx hb hr rfl (fun t9 ht9 hW9 => ⟨⟨_, rfl, _, rfl, ⟨⟨by decide, by decide⟩, fun _ => may_of hsi r_3 r_6.2.1 c_7 e_24 e_27 e_30 c_32⟩⟩, ht9.trans hHe⟩) (fun _ h9 => by rw [hlc] at h9; exact absurd h9 List.not_mem_nil) dX12_mayNow_35
theorem dX12_does_0 : decode cX12_does 0 = .ok (.aload_n 0, 1) := by decide +kernel
theorem dX12_does_1 : decode cX12_does 1 = .ok (.getfield 39, 3) := by decide +kernel
theorem dX12_does_4 : decode cX12_does 4 = .ok (.iconst 3, 1) := by decide +kernel
theorem dX12_does_5 : decode cX12_does 5 = .ok (.dup2, 1) := by decide +kernel
theorem dX12_does_6 : decode cX12_does 6 = .ok (.iaload, 1) := by decide +kernel
theorem dX12_does_7 : decode cX12_does 7 = .ok (.aload_n 0, 1) := by decide +kernel
theorem dX12_does_8 : decode cX12_does 8 = .ok (.iload_n 1, 1) := by decide +kernel
theorem dX12_does_9 : decode cX12_does 9 = .ok (.invokevirtual 416, 3) := by decide +kernel
theorem dX12_does_12 : decode cX12_does 12 = .ok (.iadd, 1) := by decide +kernel
theorem dX12_does_13 : decode cX12_does 13 = .ok (.iastore, 1) := by decide +kernel
theorem dX12_does_14 : decode cX12_does 14 = .ok (.iload_n 1, 1) := by decide +kernel
theorem dX12_does_15 : decode cX12_does 15 = .ok (.bipush 8, 2) := by decide +kernel
theorem dX12_does_17 : decode cX12_does 17 = .ok (.if_icmp .ge 16, 3) := by decide +kernel
theorem dX12_does_33 : decode cX12_does 33 = .ok (.aload_n 0, 1) := by decide +kernel
theorem dX12_does_34 : decode cX12_does 34 = .ok (.getfield 39, 3) := by decide +kernel
theorem dX12_does_37 : decode cX12_does 37 = .ok (.bipush 10, 2) := by decide +kernel
theorem dX12_does_39 : decode cX12_does 39 = .ok (.iload_n 1, 1) := by decide +kernel
theorem dX12_does_40 : decode cX12_does 40 = .ok (.bipush 8, 2) := by decide +kernel
theorem dX12_does_42 : decode cX12_does 42 = .ok (.idiv, 1) := by decide +kernel
theorem dX12_does_43 : decode cX12_does 43 = .ok (.iadd, 1) := by decide +kernel
theorem dX12_does_44 : decode cX12_does 44 = .ok (.iconst 1, 1) := by decide +kernel
theorem dX12_does_45 : decode cX12_does 45 = .ok (.isub, 1) := by decide +kernel
theorem dX12_does_46 : decode cX12_does 46 = .ok (.iload_n 1, 1) := by decide +kernel
theorem dX12_does_47 : decode cX12_does 47 = .ok (.bipush 8, 2) := by decide +kernel
theorem dX12_does_49 : decode cX12_does 49 = .ok (.irem, 1) := by decide +kernel
theorem dX12_does_50 : decode cX12_does 50 = .ok (.iastore, 1) := by decide +kernel
theorem dX12_does_51 : decode cX12_does 51 = .ok (.return_, 1) := by decide +kernel
theorem dX12_does_20 : decode cX12_does 20 = .ok (.aload_n 0, 1) := by decide +kernel
theorem dX12_does_21 : decode cX12_does 21 = .ok (.getfield 39, 3) := by decide +kernel
theorem dX12_does_24 : decode cX12_does 24 = .ok (.bipush 10, 2) := by decide +kernel
theorem dX12_does_26 : decode cX12_does 26 = .ok (.iload_n 1, 1) := by decide +kernel
theorem dX12_does_27 : decode cX12_does 27 = .ok (.iadd, 1) := by decide +kernel
theorem dX12_does_28 : decode cX12_does 28 = .ok (.iconst (-1), 1) := by decide +kernel
theorem dX12_does_29 : decode cX12_does 29 = .ok (.iastore, 1) := by decide +kernel
theorem dX12_does_30 : decode cX12_does 30 = .ok (.goto 21, 3) := by decide +kernel
set_option maxHeartbeats 4000000 in
set_option maxRecDepth 100000 in
theorem c_M_does (l : Launch) (D : va_G) (cs : Nat → ClassId) (X : XX) (sz : Nat) (m0 : Nat) (mtp : Nat) (sta : Int32) (sru : Int32) (msg : Nat) (mln : Nat) (mcl : Nat) (mcs : Nat) (mrd : Nat) (snx : Int32) (swr : Int32) (snu : Int32) (ste : Int32) (sma : Int32) (sde : Int32) (sli : Int32) (mop : Nat) (sod : Int32) (mst : Nat) (sto : Int32) (mwd : Nat) (msd : Nat) (sx_ : Int32) (mws : Nat) (sun : Int32) (mfr : Nat) (mqu : Nat) (miw : Nat) (sfi : Int32) (swa : Int32) (sdx : Int64) (mim : Nat) (mix : Nat) (mmd : Nat) (gsd : Nat → Int32) (b : Int32) (hsi : SI gsd) (r_b : Rg 0 71 b) (hmay : MAY gsd (cN b)) : Met l yX12_does (Cond.code yX12_does cX12_does 2 none :: TB) (RM 2 0 0) (va_Pc [.ref m0, .int b] (PRE D cs X [(m0, .inr (10, (.ref mtp :: .int sta :: .int sru :: .ref msg :: .ref mln :: .ref mcl :: .ref mcs :: .ref mrd :: .int snx :: .int swr :: .int snu :: .int ste :: .int sma :: .int sde :: .int sli :: .ref mop :: .int sod :: .ref mst :: .int sto :: .ref mwd :: .ref msd :: .int sx_ :: .ref mws :: .int sun :: .ref mfr :: .ref mqu :: .ref miw :: .int sfi :: .int swa :: .long sdx :: .ref mim :: .ref mix :: .ref mmd :: []))), (msd, .inl ((cs 0), 133, .inl gsd))] [] sz)) (va_Qv (S := Unit) (fun _ => True) (fun _ t => ∃ (gsd2 : Nat → Int32), (SI gsd2) ∧ (gsd2 0 = gsd 0) ∧ va_P D vwCl [(m0, .inr (10, (.ref mtp :: .int sta :: .int sru :: .ref msg :: .ref mln :: .ref mcl :: .ref mcs :: .ref mrd :: .int snx :: .int swr :: .int snu :: .int ste :: .int sma :: .int sde :: .int sli :: .ref mop :: .int sod :: .ref mst :: .int sto :: .ref mwd :: .ref msd :: .int sx_ :: .ref mws :: .int sun :: .ref mfr :: .ref mqu :: .ref miw :: .int sfi :: .int swa :: .long sdx :: .ref mim :: .ref mix :: .ref mmd :: []))), (msd, .inl ((cs 0), 133, .inl gsd2))] t.heap ∧ va_D (va_A [(m0, .inr (10, (.ref mtp :: .int sta :: .int sru :: .ref msg :: .ref mln :: .ref mcl :: .ref mcs :: .ref mrd :: .int snx :: .int swr :: .int snu :: .int ste :: .int sma :: .int sde :: .int sli :: .ref mop :: .int sod :: .ref mst :: .int sto :: .ref mwd :: .ref msd :: .int sx_ :: .ref mws :: .int sun :: .ref mfr :: .ref mqu :: .ref miw :: .int sfi :: .int swa :: .long sdx :: .ref mim :: .ref mix :: .ref mmd :: []))), (msd, .inl ((cs 0), 133, .inl gsd))] sz) [(m0, .inr (10, (.ref mtp :: .int sta :: .int sru :: .ref msg :: .ref mln :: .ref mcl :: .ref mcs :: .ref mrd :: .int snx :: .int swr :: .int snu :: .int ste :: .int sma :: .int sde :: .int sli :: .ref mop :: .int sod :: .ref mst :: .int sto :: .ref mwd :: .ref msd :: .int sx_ :: .ref mws :: .int sun :: .ref mfr :: .ref mqu :: .ref miw :: .int sfi :: .int swa :: .long sdx :: .ref mim :: .ref mix :: .ref mmd :: []))), (msd, .inl ((cs 0), 133, .inl gsd2))]) (va_A [(m0, .inr (10, (.ref mtp :: .int sta :: .int sru :: .ref msg :: .ref mln :: .ref mcl :: .ref mcs :: .ref mrd :: .int snx :: .int swr :: .int snu :: .int ste :: .int sma :: .int sde :: .int sli :: .ref mop :: .int sod :: .ref mst :: .int sto :: .ref mwd :: .ref msd :: .int sx_ :: .ref mws :: .int sun :: .ref mfr :: .ref mqu :: .ref miw :: .int sfi :: .int swa :: .long sdx :: .ref mim :: .ref mix :: .ref mmd :: []))), (msd, .inl ((cs 0), 133, .inl gsd))] sz)) 0 0 (va_A [(m0, .inr (10, (.ref mtp :: .int sta :: .int sru :: .ref msg :: .ref mln :: .ref mcl :: .ref mcs :: .ref mrd :: .int snx :: .int swr :: .int snu :: .int ste :: .int sma :: .int sde :: .int sli :: .ref mop :: .int sod :: .ref mst :: .int sto :: .ref mwd :: .ref msd :: .int sx_ :: .ref mws :: .int sun :: .ref mfr :: .ref mqu :: .ref miw :: .int sfi :: .int swa :: .long sdx :: .ref mim :: .ref mix :: .ref mmd :: []))), (msd, .inl ((cs 0), 133, .inl gsd))] sz) := by
  refine MET (y := yX12_does) (cc := cX12_does) (maxL := 2) (ret := none) (d := 2) (mc := 0) (ms := 0) (D := D) (cs := cs) (X := X) (ws := [(m0, .inr (10, (.ref mtp :: .int sta :: .int sru :: .ref msg :: .ref mln :: .ref mcl :: .ref mcs :: .ref mrd :: .int snx :: .int swr :: .int snu :: .int ste :: .int sma :: .int sde :: .int sli :: .ref mop :: .int sod :: .ref mst :: .int sto :: .ref mwd :: .ref msd :: .int sx_ :: .ref mws :: .int sun :: .ref mfr :: .ref mqu :: .ref miw :: .int sfi :: .int swa :: .long sdx :: .ref mim :: .ref mix :: .ref mmd :: []))), (msd, .inl ((cs 0), 133, .inl gsd))]) (wo := []) (sz := sz) (av := [.ref m0, .int b]) (Qc := fun A => va_Qv (S := Unit) (fun _ => True) (fun _ t => ∃ (gsd2 : Nat → Int32), (SI gsd2) ∧ (gsd2 0 = gsd 0) ∧ va_P D vwCl [(m0, .inr (10, (.ref mtp :: .int sta :: .int sru :: .ref msg :: .ref mln :: .ref mcl :: .ref mcs :: .ref mrd :: .int snx :: .int swr :: .int snu :: .int ste :: .int sma :: .int sde :: .int sli :: .ref mop :: .int sod :: .ref mst :: .int sto :: .ref mwd :: .ref msd :: .int sx_ :: .ref mws :: .int sun :: .ref mfr :: .ref mqu :: .ref miw :: .int sfi :: .int swa :: .long sdx :: .ref mim :: .ref mix :: .ref mmd :: []))), (msd, .inl ((cs 0), 133, .inl gsd2))] t.heap ∧ va_D A [(m0, .inr (10, (.ref mtp :: .int sta :: .int sru :: .ref msg :: .ref mln :: .ref mcl :: .ref mcs :: .ref mrd :: .int snx :: .int swr :: .int snu :: .int ste :: .int sma :: .int sde :: .int sli :: .ref mop :: .int sod :: .ref mst :: .int sto :: .ref mwd :: .ref msd :: .int sx_ :: .ref mws :: .int sun :: .ref mfr :: .ref mqu :: .ref miw :: .int sfi :: .int swa :: .long sdx :: .ref mim :: .ref mix :: .ref mmd :: []))), (msd, .inl ((cs 0), 133, .inl gsd2))]) A) (by decide) (Nat.le_of_ble_eq_true rfl) ?_
  intro p e s m below meth c ls A H hHe hx hb hr hml hown hts hlocks hnm hP hK hD hA hS hN hR hX hXs hl
  have hD : va_D A [(m0, .inr (10, (.ref mtp :: .int sta :: .int sru :: .ref msg :: .ref mln :: .ref mcl :: .ref mcs :: .ref mrd :: .int snx :: .int swr :: .int snu :: .int ste :: .int sma :: .int sde :: .int sli :: .ref mop :: .int sod :: .ref mst :: .int sto :: .ref mwd :: .ref msd :: .int sx_ :: .ref mws :: .int sun :: .ref mfr :: .ref mqu :: .ref miw :: .int sfi :: .int swa :: .long sdx :: .ref mim :: .ref mix :: .ref mmd :: []))), (msd, .inl ((cs 0), 133, .inl gsd))] := hD
  obtain ⟨locs, hlc⟩ : ∃ z : List Loc, z = [] := ⟨_, rfl⟩
  rw [← hlc] at hS ⊢
  have hown : s.vm.findClass "WrongHoleModel" = some m.cls := hown
  have hT : ∀ w ∈ TB, w.before ([.ref m0, .int b] : List Value).toArray s = true := fun w h => hts w (List.mem_cons_of_mem _ h)
  have hl : lv_has ls 2 [(0, .ref m0), (1, .int b)] := hl
  have hP : va_P D vwCl [(m0, .inr (10, (.ref mtp :: .int sta :: .int sru :: .ref msg :: .ref mln :: .ref mcl :: .ref mcs :: .ref mrd :: .int snx :: .int swr :: .int snu :: .int ste :: .int sma :: .int sde :: .int sli :: .ref mop :: .int sod :: .ref mst :: .int sto :: .ref mwd :: .ref msd :: .int sx_ :: .ref mws :: .int sun :: .ref mfr :: .ref mqu :: .ref miw :: .int sfi :: .int swa :: .long sdx :: .ref mim :: .ref mix :: .ref mmd :: []))), (msd, .inl ((cs 0), 133, .inl gsd))] H := hP
  refine lv_aload_n hx hb dX12_does_0 rfl (lv_at hl 0 rfl) ?_
  refine va_get (D := D) (ci := 10) (v := .ref msd) (C := "WrongHoleModel") (T := TX12) (N := 33) hx hb hts (iq_RX12 _) hown hK hP 0 rfl rfl 20 (by decide) (hT _ qq_5_172) (fun _ h9 => h9) rfl dX12_does_1 ?_
  refine lv_iconst (v := 3) hx hb dX12_does_4 (by decide) ?_
  refine lv_dup2_11 hx hb dX12_does_5 rfl rfl ?_
  have hi_1 : vp_in 3 133 := vi_c rfl
  refine va_iald hx hb hK hP 1 0 rfl rfl hi_1 dX12_does_6 ?_
  refine lv_topi (fun x_2 e_3 => ?_)
  have r_4 : Rg 0 9999 x_2 := Rg.of e_3 (hsi.a3)
  refine lv_aload_n hx hb dX12_does_7 rfl (lv_at hl 0 rfl) ?_
  refine lv_iload_n hx hb dX12_does_8 rfl (lv_at hl 1 rfl) ?_
  have hPc := va_P.sub (ws' := [(m0, .inr (10, (.ref mtp :: .int sta :: .int sru :: .ref msg :: .ref mln :: .ref mcl :: .ref mcs :: .ref mrd :: .int snx :: .int swr :: .int snu :: .int ste :: .int sma :: .int sde :: .int sli :: .ref mop :: .int sod :: .ref mst :: .int sto :: .ref mwd :: .ref msd :: .int sx_ :: .ref mws :: .int sun :: .ref mfr :: .ref mqu :: .ref miw :: .int sfi :: .int swa :: .long sdx :: .ref mim :: .ref mix :: .ref mmd :: []))), (msd, .inl ((cs 0), 133, .inl gsd))]) hP [0, 1] rfl
  refine cl_V (W.runV (As := [.int b]) (rest := [.int x_2, .int 3, .ref msd]) ⟨hx, hb, hml, hown, hts⟩ (c_M_timeE l D cs m0 mtp sta sru msg mln mcl mcs mrd snx swr snu ste sma sde sli mop sod mst sto mwd msd sx_ mws sun mfr mqu miw sfi swa sdx mim mix mmd gsd b hsi r_b hmay.1) ⟨callB_of 1 hts (gd_C qq_7_140) rfl rfl rfl (hT _ qq_1_9) (hT _ qq_7_137) (by decide +kernel) (rm_R rfl rfl), (hT _ qq_7_139), (hT _ qs_6_0)⟩ (pq_V hPc hK hN (ci := 10) (q0 := 0) rfl rfl) rfl rfl hl.1 rfl (lv_room (Nat.le_of_ble_eq_true rfl)) dX12_does_9 ⟨Nat.le_of_ble_eq_true rfl, Nat.le_of_ble_eq_true rfl⟩) ?_
  refine lv_topi (fun x_5 e_6 => ?_)
  have r_7 : Rg 1 40 x_5 := Rg.of e_6 (tm_rg (hsi) hmay.1 (cN_lt (n := 72) r_b (by decide)))
  refine lv_iadd hx hb dX12_does_12 ?_
  refine lv_topi (fun x_8 e_9 => ?_)
  have r_10 : Rg 1 10039 x_8 := Rg.add e_9 r_4 r_7 (by decide)
  have hi_11 : vp_in 3 133 := vi_c rfl
  refine va_iast hx hb hK hP hD hS 1 0 rfl rfl hi_11 dX12_does_13 (fun H locs hP hD hS => ?_)
  obtain ⟨g_12, rb_13, hP, hD⟩ : ∃ g_12 : Nat → Int32, (SI g_12 ∧ g_12 0 = gsd 0 ∧ ∀ j, j < 8 → g_12 (10 + j) = gsd (10 + j)) ∧ va_P D vwCl [(m0, .inr (10, (.ref mtp :: .int sta :: .int sru :: .ref msg :: .ref mln :: .ref mcl :: .ref mcs :: .ref mrd :: .int snx :: .int swr :: .int snu :: .int ste :: .int sma :: .int sde :: .int sli :: .ref mop :: .int sod :: .ref mst :: .int sto :: .ref mwd :: .ref msd :: .int sx_ :: .ref mws :: .int sun :: .ref mfr :: .ref mqu :: .ref miw :: .int sfi :: .int swa :: .long sdx :: .ref mim :: .ref mix :: .ref mmd :: []))), (msd, .inl ((cs 0), 133, .inl g_12))] H ∧ va_D A [(m0, .inr (10, (.ref mtp :: .int sta :: .int sru :: .ref msg :: .ref mln :: .ref mcl :: .ref mcs :: .ref mrd :: .int snx :: .int swr :: .int snu :: .int ste :: .int sma :: .int sde :: .int sli :: .ref mop :: .int sod :: .ref mst :: .int sto :: .ref mwd :: .ref msd :: .int sx_ :: .ref mws :: .int sun :: .ref mfr :: .ref mqu :: .ref miw :: .int sfi :: .int swa :: .long sdx :: .ref mim :: .ref mix :: .ref mmd :: []))), (msd, .inl ((cs 0), 133, .inl g_12))] := ⟨_, ⟨si_3 hsi (do_rg hsi e_3 e_6 e_9 hmay (cN_lt (n := 72) r_b (by decide))), do_same⟩, hP, hD⟩
  refine lv_iload_n hx hb dX12_does_14 rfl (lv_at hl 1 rfl) ?_
  refine lv_bipush (v := 8) hx hb dX12_does_15 (by decide) ?_
  refine lv_icmp_ge (tgt := 33) hx hb dX12_does_17 (by decide) (fun c_14 => ?_) (fun c_14 => ?_)
  · have r_15 : Rg 8 71 b := Rg.le_r c_14 (Rg.c (c := 8) (k := 8) rfl) r_b (by decide)
    refine lv_aload_n hx hb dX12_does_33 rfl (lv_at hl 0 rfl) ?_
    refine va_get (D := D) (ci := 10) (v := .ref msd) (C := "WrongHoleModel") (T := TX12) (N := 33) hx hb hts (iq_RX12 _) hown hK hP 0 rfl rfl 20 (by decide) (hT _ qq_5_172) (fun _ h9 => h9) rfl dX12_does_34 ?_
    refine lv_bipush (v := 10) hx hb dX12_does_37 (by decide) ?_
    refine lv_iload_n hx hb dX12_does_39 rfl (lv_at hl 1 rfl) ?_
    refine lv_bipush (v := 8) hx hb dX12_does_40 (by decide) ?_
    refine lv_idiv hx hb dX12_does_42 (by decide) ?_
    refine lv_topi (fun x_36 e_37 => ?_)
    have r_38 : Rg 1 8 x_36 := Rg.divL (al := 8) (ah := 71) (k := 8) e_37 r_15 (Rg.c (c := 8) (k := 8) rfl) (by decide) (by decide) (by decide)
    refine lv_iadd hx hb dX12_does_43 ?_
    refine lv_topi (fun x_39 e_40 => ?_)
    have r_41 : Rg 11 18 x_39 := Rg.add e_40 (Rg.c (c := 10) (k := 10) rfl) r_38 (by decide)
    refine lv_iconst (v := 1) hx hb dX12_does_44 (by decide) ?_
    refine lv_isub hx hb dX12_does_45 ?_
    refine lv_topi (fun x_42 e_43 => ?_)
    have r_44 : Rg 10 17 x_42 := Rg.sub e_43 r_41 (Rg.c (c := 1) (k := 1) rfl) (by decide)
    refine lv_iload_n hx hb dX12_does_46 rfl (lv_at hl 1 rfl) ?_
    refine lv_bipush (v := 8) hx hb dX12_does_47 (by decide) ?_
    refine lv_irem hx hb dX12_does_49 (by decide) ?_
    refine lv_topi (fun x_45 e_46 => ?_)
    have r_47 : Rg 0 7 x_45 := Rg.rem e_46 (Rg.wk (lo2 := 0) (hi2 := 71) r_15 (by decide)) (Rg.c (c := 8) (k := 8) rfl) (by decide)
    have hi_48 : vp_in x_42 133 := Rg.in r_44 (by decide)
    refine va_iast hx hb hK hP hD hS 1 0 rfl rfl hi_48 dX12_does_50 (fun H locs hP hD hS => ?_)
    obtain ⟨g_49, rb_50, hP, hD⟩ : ∃ g_49 : Nat → Int32, (SI g_49 ∧ g_49 0 = gsd 0) ∧ va_P D vwCl [(m0, .inr (10, (.ref mtp :: .int sta :: .int sru :: .ref msg :: .ref mln :: .ref mcl :: .ref mcs :: .ref mrd :: .int snx :: .int swr :: .int snu :: .int ste :: .int sma :: .int sde :: .int sli :: .ref mop :: .int sod :: .ref mst :: .int sto :: .ref mwd :: .ref msd :: .int sx_ :: .ref mws :: .int sun :: .ref mfr :: .ref mqu :: .ref miw :: .int sfi :: .int swa :: .long sdx :: .ref mim :: .ref mix :: .ref mmd :: []))), (msd, .inl ((cs 0), 133, .inl g_49))] H ∧ va_D A [(m0, .inr (10, (.ref mtp :: .int sta :: .int sru :: .ref msg :: .ref mln :: .ref mcl :: .ref mcs :: .ref mrd :: .int snx :: .int swr :: .int snu :: .int ste :: .int sma :: .int sde :: .int sli :: .ref mop :: .int sod :: .ref mst :: .int sto :: .ref mwd :: .ref msd :: .int sx_ :: .ref mws :: .int sun :: .ref mfr :: .ref mqu :: .ref miw :: .int sfi :: .int swa :: .long sdx :: .ref mim :: .ref mix :: .ref mmd :: []))), (msd, .inl ((cs 0), 133, .inl g_49))] := ⟨_, ⟨si_do rb_13.1 hsi r_15 (by decide) e_37 e_40 e_43 e_46 hmay rb_13.2, (up_n (by have h9 := cN_i r_44 (by decide); have h8 := (r_44).1; show 0 ≠ cN x_42; omega)).trans rb_13.2.1⟩, hP, hD⟩
    refine W.widen (k := 0) (n := 0) (Nat.le_of_ble_eq_true rfl) (Nat.le_of_ble_eq_true rfl) ?_
    have hP9 := hP.sub (ws' := [(m0, .inr (10, (.ref mtp :: .int sta :: .int sru :: .ref msg :: .ref mln :: .ref mcl :: .ref mcs :: .ref mrd :: .int snx :: .int swr :: .int snu :: .int ste :: .int sma :: .int sde :: .int sli :: .ref mop :: .int sod :: .ref mst :: .int sto :: .ref mwd :: .ref msd :: .int sx_ :: .ref mws :: .int sun :: .ref mfr :: .ref mqu :: .ref miw :: .int sfi :: .int swa :: .long sdx :: .ref mim :: .ref mix :: .ref mmd :: []))), (msd, .inl ((cs 0), 133, .inl g_49))]) [0, 1] rfl
    have hD9 := hD.sub (ws' := [(m0, .inr (10, (.ref mtp :: .int sta :: .int sru :: .ref msg :: .ref mln :: .ref mcl :: .ref mcs :: .ref mrd :: .int snx :: .int swr :: .int snu :: .int ste :: .int sma :: .int sde :: .int sli :: .ref mop :: .int sod :: .ref mst :: .int sto :: .ref mwd :: .ref msd :: .int sx_ :: .ref mws :: .int sun :: .ref mfr :: .ref mqu :: .ref miw :: .int sfi :: .int swa :: .long sdx :: .ref mim :: .ref mix :: .ref mmd :: []))), (msd, .inl ((cs 0), 133, .inl g_49))]) [0, 1] (by decide) rfl
    exact W.vret hx hb hr (fun t9 ht9 hW9 => ⟨⟨(), rfl, trivial, ⟨g_49, rb_50.1, rb_50.2, by rw [ht9]; exact hP9, hD9⟩⟩, hS.F ht9⟩) hS.2.2 dX12_does_51
  · have r_16 : Rg 0 7 b := Rg.lt_l (nle_lt c_14) r_b (Rg.c (c := 8) (k := 8) rfl) (by decide)
    refine lv_aload_n hx hb dX12_does_20 rfl (lv_at hl 0 rfl) ?_
    refine va_get (D := D) (ci := 10) (v := .ref msd) (C := "WrongHoleModel") (T := TX12) (N := 33) hx hb hts (iq_RX12 _) hown hK hP 0 rfl rfl 20 (by decide) (hT _ qq_5_172) (fun _ h9 => h9) rfl dX12_does_21 ?_
    refine lv_bipush (v := 10) hx hb dX12_does_24 (by decide) ?_
    refine lv_iload_n hx hb dX12_does_26 rfl (lv_at hl 1 rfl) ?_
    refine lv_iadd hx hb dX12_does_27 ?_
    refine lv_topi (fun x_51 e_52 => ?_)
    have r_53 : Rg 10 17 x_51 := Rg.add e_52 (Rg.c (c := 10) (k := 10) rfl) r_16 (by decide)
    refine lv_iconst (v := (-1)) hx hb dX12_does_28 (by decide) ?_
    have hi_54 : vp_in x_51 133 := Rg.in r_53 (by decide)
    refine va_iast hx hb hK hP hD hS 1 0 rfl rfl hi_54 dX12_does_29 (fun H locs hP hD hS => ?_)
    obtain ⟨g_55, rb_56, hP, hD⟩ : ∃ g_55 : Nat → Int32, (SI g_55 ∧ g_55 0 = gsd 0) ∧ va_P D vwCl [(m0, .inr (10, (.ref mtp :: .int sta :: .int sru :: .ref msg :: .ref mln :: .ref mcl :: .ref mcs :: .ref mrd :: .int snx :: .int swr :: .int snu :: .int ste :: .int sma :: .int sde :: .int sli :: .ref mop :: .int sod :: .ref mst :: .int sto :: .ref mwd :: .ref msd :: .int sx_ :: .ref mws :: .int sun :: .ref mfr :: .ref mqu :: .ref miw :: .int sfi :: .int swa :: .long sdx :: .ref mim :: .ref mix :: .ref mmd :: []))), (msd, .inl ((cs 0), 133, .inl g_55))] H ∧ va_D A [(m0, .inr (10, (.ref mtp :: .int sta :: .int sru :: .ref msg :: .ref mln :: .ref mcl :: .ref mcs :: .ref mrd :: .int snx :: .int swr :: .int snu :: .int ste :: .int sma :: .int sde :: .int sli :: .ref mop :: .int sod :: .ref mst :: .int sto :: .ref mwd :: .ref msd :: .int sx_ :: .ref mws :: .int sun :: .ref mfr :: .ref mqu :: .ref miw :: .int sfi :: .int swa :: .long sdx :: .ref mim :: .ref mix :: .ref mmd :: []))), (msd, .inl ((cs 0), 133, .inl g_55))] := ⟨_, ⟨si_ix (b := cN b) rb_13.1 (show cN x_51 = 10 + cN b from (ix_add (k := 10) e_52 r_16 (by decide) ⟨by decide, rfl⟩)) (cN_lt (n := 8) r_16 (by decide)) ⟨by decide, by decide⟩ (fun h9 => absurd h9 (by decide)), (up_n (by have h9 : cN x_51 = 10 + cN b := (ix_add (k := 10) e_52 r_16 (by decide) ⟨by decide, rfl⟩); show 0 ≠ cN x_51; omega)).trans rb_13.2.1⟩, hP, hD⟩
    refine lv_goto (tgt := 51) hx hb dX12_does_30 (by decide) ?_
    refine W.widen (k := 0) (n := 0) (Nat.le_of_ble_eq_true rfl) (Nat.le_of_ble_eq_true rfl) ?_
    have hP9 := hP.sub (ws' := [(m0, .inr (10, (.ref mtp :: .int sta :: .int sru :: .ref msg :: .ref mln :: .ref mcl :: .ref mcs :: .ref mrd :: .int snx :: .int swr :: .int snu :: .int ste :: .int sma :: .int sde :: .int sli :: .ref mop :: .int sod :: .ref mst :: .int sto :: .ref mwd :: .ref msd :: .int sx_ :: .ref mws :: .int sun :: .ref mfr :: .ref mqu :: .ref miw :: .int sfi :: .int swa :: .long sdx :: .ref mim :: .ref mix :: .ref mmd :: []))), (msd, .inl ((cs 0), 133, .inl g_55))]) [0, 1] rfl
    have hD9 := hD.sub (ws' := [(m0, .inr (10, (.ref mtp :: .int sta :: .int sru :: .ref msg :: .ref mln :: .ref mcl :: .ref mcs :: .ref mrd :: .int snx :: .int swr :: .int snu :: .int ste :: .int sma :: .int sde :: .int sli :: .ref mop :: .int sod :: .ref mst :: .int sto :: .ref mwd :: .ref msd :: .int sx_ :: .ref mws :: .int sun :: .ref mfr :: .ref mqu :: .ref miw :: .int sfi :: .int swa :: .long sdx :: .ref mim :: .ref mix :: .ref mmd :: []))), (msd, .inl ((cs 0), 133, .inl g_55))]) [0, 1] (by decide) rfl
    exact W.vret hx hb hr (fun t9 ht9 hW9 => ⟨⟨(), rfl, trivial, ⟨g_55, rb_56.1, rb_56.2, by rw [ht9]; exact hP9, hD9⟩⟩, hS.F ht9⟩) hS.2.2 dX12_does_51
