theorem dX12_situationNow_0 : decode cX12_situationNow 0 = .ok (.iconst 0, 1) := by decide +kernel
theorem dX12_situationNow_1 : decode cX12_situationNow 1 = .ok (.istore_n 1, 1) := by decide +kernel
theorem dX12_situationNow_2 : decode cX12_situationNow 2 = .ok (.iconst 0, 1) := by decide +kernel
theorem dX12_situationNow_3 : decode cX12_situationNow 3 = .ok (.istore_n 2, 1) := by decide +kernel
theorem dX12_situationNow_4 : decode cX12_situationNow 4 = .ok (.iload_n 2, 1) := by decide +kernel
theorem dX12_situationNow_5 : decode cX12_situationNow 5 = .ok (.aload_n 0, 1) := by decide +kernel
theorem dX12_situationNow_6 : decode cX12_situationNow 6 = .ok (.getfield 39, 3) := by decide +kernel
theorem dX12_situationNow_9 : decode cX12_situationNow 9 = .ok (.iconst 0, 1) := by decide +kernel
theorem dX12_situationNow_10 : decode cX12_situationNow 10 = .ok (.iaload, 1) := by decide +kernel
theorem dX12_situationNow_11 : decode cX12_situationNow 11 = .ok (.if_icmp .ge 41, 3) := by decide +kernel
theorem dX12_situationNow_52 : decode cX12_situationNow 52 = .ok (.iload_n 1, 1) := by decide +kernel
theorem dX12_situationNow_53 : decode cX12_situationNow 53 = .ok (.ireturn, 1) := by decide +kernel
theorem dX12_situationNow_14 : decode cX12_situationNow 14 = .ok (.aload_n 0, 1) := by decide +kernel
theorem dX12_situationNow_15 : decode cX12_situationNow 15 = .ok (.getfield 39, 3) := by decide +kernel
theorem dX12_situationNow_18 : decode cX12_situationNow 18 = .ok (.bipush 10, 2) := by decide +kernel
theorem dX12_situationNow_20 : decode cX12_situationNow 20 = .ok (.iload_n 2, 1) := by decide +kernel
theorem dX12_situationNow_21 : decode cX12_situationNow 21 = .ok (.iadd, 1) := by decide +kernel
theorem dX12_situationNow_22 : decode cX12_situationNow 22 = .ok (.iaload, 1) := by decide +kernel
theorem dX12_situationNow_23 : decode cX12_situationNow 23 = .ok (.ifCond .lt 23, 3) := by decide +kernel
theorem dX12_situationNow_46 : decode cX12_situationNow 46 = .ok (.iinc 2 1, 3) := by decide +kernel
theorem dX12_situationNow_49 : decode cX12_situationNow 49 = .ok (.goto (-45), 3) := by decide +kernel
theorem dX12_situationNow_26 : decode cX12_situationNow 26 = .ok (.iload_n 1, 1) := by decide +kernel
theorem dX12_situationNow_27 : decode cX12_situationNow 27 = .ok (.iconst 1, 1) := by decide +kernel
theorem dX12_situationNow_28 : decode cX12_situationNow 28 = .ok (.iload_n 2, 1) := by decide +kernel
theorem dX12_situationNow_29 : decode cX12_situationNow 29 = .ok (.ishl, 1) := by decide +kernel
theorem dX12_situationNow_30 : decode cX12_situationNow 30 = .ok (.sipush 256, 3) := by decide +kernel
theorem dX12_situationNow_33 : decode cX12_situationNow 33 = .ok (.aload_n 0, 1) := by decide +kernel
theorem dX12_situationNow_34 : decode cX12_situationNow 34 = .ok (.getfield 39, 3) := by decide +kernel
theorem dX12_situationNow_37 : decode cX12_situationNow 37 = .ok (.bipush 10, 2) := by decide +kernel
theorem dX12_situationNow_39 : decode cX12_situationNow 39 = .ok (.iload_n 2, 1) := by decide +kernel
theorem dX12_situationNow_40 : decode cX12_situationNow 40 = .ok (.iadd, 1) := by decide +kernel
theorem dX12_situationNow_41 : decode cX12_situationNow 41 = .ok (.iaload, 1) := by decide +kernel
theorem dX12_situationNow_42 : decode cX12_situationNow 42 = .ok (.ishl, 1) := by decide +kernel
theorem dX12_situationNow_43 : decode cX12_situationNow 43 = .ok (.ior, 1) := by decide +kernel
theorem dX12_situationNow_44 : decode cX12_situationNow 44 = .ok (.ior, 1) := by decide +kernel
theorem dX12_situationNow_45 : decode cX12_situationNow 45 = .ok (.istore_n 1, 1) := by decide +kernel
set_option maxHeartbeats 4000000 in
set_option maxRecDepth 100000 in
theorem c_M_situationNow (l : Launch) (D : va_G) (cs : Nat → ClassId) (m0 : Nat) (mtp : Nat) (sta : Int32) (sru : Int32) (msg : Nat) (mln : Nat) (mcl : Nat) (mcs : Nat) (mrd : Nat) (snx : Int32) (swr : Int32) (snu : Int32) (ste : Int32) (sma : Int32) (sde : Int32) (sli : Int32) (mop : Nat) (sod : Int32) (mst : Nat) (sto : Int32) (mwd : Nat) (msd : Nat) (sx_ : Int32) (mws : Nat) (sun : Int32) (mfr : Nat) (mqu : Nat) (miw : Nat) (sfi : Int32) (swa : Int32) (sdx : Int64) (mim : Nat) (mix : Nat) (mmd : Nat) (gsd : Nat → Int32) (hsi : SI gsd) : Met l yX12_situationNow (Cond.code yX12_situationNow cX12_situationNow 3 (some .int) :: TB) (RM 0 0 0) (va_Pc [.ref m0] (PRR D cs [(m0, .inr (10, (.ref mtp :: .int sta :: .int sru :: .ref msg :: .ref mln :: .ref mcl :: .ref mcs :: .ref mrd :: .int snx :: .int swr :: .int snu :: .int ste :: .int sma :: .int sde :: .int sli :: .ref mop :: .int sod :: .ref mst :: .int sto :: .ref mwd :: .ref msd :: .int sx_ :: .ref mws :: .int sun :: .ref mfr :: .ref mqu :: .ref miw :: .int sfi :: .int swa :: .long sdx :: .ref mim :: .ref mix :: .ref mmd :: []))), (msd, .inl ((cs 0), 133, .inl gsd))])) (QP (fun v => ∃ x : Int32, v = .int x ∧ NOW gsd x)) 0 0 (fun _ => False) := by
  refine MER (y := yX12_situationNow) (cc := cX12_situationNow) (maxL := 3) (ret := (some .int)) (d := 0) (D := D) (cs := cs) (ws := [(m0, .inr (10, (.ref mtp :: .int sta :: .int sru :: .ref msg :: .ref mln :: .ref mcl :: .ref mcs :: .ref mrd :: .int snx :: .int swr :: .int snu :: .int ste :: .int sma :: .int sde :: .int sli :: .ref mop :: .int sod :: .ref mst :: .int sto :: .ref mwd :: .ref msd :: .int sx_ :: .ref mws :: .int sun :: .ref mfr :: .ref mqu :: .ref miw :: .int sfi :: .int swa :: .long sdx :: .ref mim :: .ref mix :: .ref mmd :: []))), (msd, .inl ((cs 0), 133, .inl gsd))]) (av := [.ref m0]) (Qc := QP (fun v => ∃ x : Int32, v = .int x ∧ NOW gsd x)) (by decide) (Nat.le_of_ble_eq_true rfl) ?_
  intro p e s m below meth c ls H hHe hx hb hr hml hown hts hlocks hP hK hN hl
  obtain ⟨locs, hlc⟩ : ∃ z : List Loc, z = [] := ⟨_, rfl⟩
  rw [← hlc]
  have hown : s.vm.findClass "WrongHoleModel" = some m.cls := hown
  have hT : ∀ w ∈ TB, w.before ([.ref m0] : List Value).toArray s = true := fun w h => hts w (List.mem_cons_of_mem _ h)
  have hl : lv_has ls 3 [(0, .ref m0)] := hl
  have hP : va_P D vwCl [(m0, .inr (10, (.ref mtp :: .int sta :: .int sru :: .ref msg :: .ref mln :: .ref mcl :: .ref mcs :: .ref mrd :: .int snx :: .int swr :: .int snu :: .int ste :: .int sma :: .int sde :: .int sli :: .ref mop :: .int sod :: .ref mst :: .int sto :: .ref mwd :: .ref msd :: .int sx_ :: .ref mws :: .int sun :: .ref mfr :: .ref mqu :: .ref miw :: .int sfi :: .int swa :: .long sdx :: .ref mim :: .ref mix :: .ref mmd :: []))), (msd, .inl ((cs 0), 133, .inl gsd))] H := hP
  refine lv_iconst (v := 0) hx hb dX12_situationNow_0 (by decide) ?_
  refine lv_istore_n (lv' := [(1, .int 0), (0, .ref m0)]) hx hb dX12_situationNow_1 rfl hl (by decide) rfl (fun ls hl => ?_)
  refine lv_iconst (v := 0) hx hb dX12_situationNow_2 (by decide) ?_
  refine lv_istore_n (lv' := [(2, .int 0), (1, .int 0), (0, .ref m0)]) hx hb dX12_situationNow_3 rfl hl (by decide) rfl (fun ls hl => ?_)
  refine w_wh (σ := (Int32) × (Int32)) (fun x9 H locs ls => match x9 with | (v_51, v_52) => Rg 0 8 v_51 ∧ (SIT gsd (cN v_51) v_52 ∧ cN v_51 ≤ cN (gsd 0)) ∧ H = s.heap ∧ locs = [] ∧ va_P D vwCl [(m0, .inr (10, (.ref mtp :: .int sta :: .int sru :: .ref msg :: .ref mln :: .ref mcl :: .ref mcs :: .ref mrd :: .int snx :: .int swr :: .int snu :: .int ste :: .int sma :: .int sde :: .int sli :: .ref mop :: .int sod :: .ref mst :: .int sto :: .ref mwd :: .ref msd :: .int sx_ :: .ref mws :: .int sun :: .ref mfr :: .ref mqu :: .ref miw :: .int sfi :: .int swa :: .long sdx :: .ref mim :: .ref mix :: .ref mmd :: []))), (msd, .inl ((cs 0), 133, .inl gsd))] H ∧ lv_has ls 3 [(2, .int v_51), (1, .int v_52), (0, .ref m0)]) (fun x9 => match x9 with | (v_51, v_52) => (8 - Int32.toInt v_51).toNat) 4 ?_ (0, 0) H locs ls ⟨(Rg.wk (lo2 := 0) (hi2 := 8) (Rg.c (c := 0) (k := 0) rfl) (by decide)), ⟨SIT_0 gsd, Nat.zero_le _⟩, hHe, hlc, hP, lv_sub hl [0, 1, 2] rfl⟩
  rintro ⟨v_51, v_52⟩ H locs ls ⟨r_422, iv_423, hHe, hlc, hP, hl⟩ ih_421
  refine lv_iload_n hx hb dX12_situationNow_4 rfl (lv_at hl 0 rfl) ?_
  refine lv_aload_n hx hb dX12_situationNow_5 rfl (lv_at hl 2 rfl) ?_
  refine va_get (D := D) (ci := 10) (v := .ref msd) (C := "WrongHoleModel") (T := TX12) (N := 33) hx hb hts (iq_RX12 _) hown hK hP 0 rfl rfl 20 (by decide) (hT _ qq_5_172) (fun _ h9 => h9) rfl dX12_situationNow_6 ?_
  refine lv_iconst (v := 0) hx hb dX12_situationNow_9 (by decide) ?_
  have hi_424 : vp_in 0 133 := vi_c rfl
  refine va_iald hx hb hK hP 1 0 rfl rfl hi_424 dX12_situationNow_10 ?_
  refine lv_topi (fun x_425 e_426 => ?_)
  have r_427 : Rg 0 8 x_425 := Rg.of e_426 (hsi.a0)
  refine lv_icmp_ge (tgt := 52) hx hb dX12_situationNow_11 (by decide) (fun c_428 => ?_) (fun c_428 => ?_)
  · refine lv_iload_n hx hb dX12_situationNow_52 rfl (lv_at hl 1 rfl) ?_
    exact W.iret (v := v_52) hx hb hr (fun t9 ht9 hW9 => ⟨⟨_, rfl, _, rfl, (SIT_e iv_423.1 iv_423.2 e_426 c_428 r_427 r_422 (by decide))⟩, ht9.trans hHe⟩) (fun _ h9 => by rw [hlc] at h9; exact absurd h9 List.not_mem_nil) dX12_situationNow_53
  · have r_429 : Rg 0 7 v_51 := Rg.lt_l (nle_lt c_428) r_422 r_427 (by decide)
    have r_430 : Rg 1 8 x_425 := Rg.lt_r (nle_lt c_428) r_422 r_427 (by decide)
    refine lv_aload_n hx hb dX12_situationNow_14 rfl (lv_at hl 2 rfl) ?_
    refine va_get (D := D) (ci := 10) (v := .ref msd) (C := "WrongHoleModel") (T := TX12) (N := 33) hx hb hts (iq_RX12 _) hown hK hP 0 rfl rfl 20 (by decide) (hT _ qq_5_172) (fun _ h9 => h9) rfl dX12_situationNow_15 ?_
    refine lv_bipush (v := 10) hx hb dX12_situationNow_18 (by decide) ?_
    refine lv_iload_n hx hb dX12_situationNow_20 rfl (lv_at hl 0 rfl) ?_
    refine lv_iadd hx hb dX12_situationNow_21 ?_
    refine lv_topi (fun x_474 e_475 => ?_)
    have r_476 : Rg 10 17 x_474 := Rg.add e_475 (Rg.c (c := 10) (k := 10) rfl) r_429 (by decide)
    have hi_477 : vp_in x_474 133 := Rg.in r_476 (by decide)
    refine va_iald hx hb hK hP 1 0 rfl rfl hi_477 dX12_situationNow_22 ?_
    refine lv_topi (fun x_478 e_479 => ?_)
    have r_480 : Rg (-1) 7 x_478 := Rg.of e_479 (hsi.li r_476 (by decide))
    refine w_cut (σ := (Int32)) (fun (v_499 : Int32) H locs ls => (SIT gsd (cN v_51 + 1) v_499) ∧ H = s.heap ∧ locs = [] ∧ va_P D vwCl [(m0, .inr (10, (.ref mtp :: .int sta :: .int sru :: .ref msg :: .ref mln :: .ref mcl :: .ref mcs :: .ref mrd :: .int snx :: .int swr :: .int snu :: .int ste :: .int sma :: .int sde :: .int sli :: .ref mop :: .int sod :: .ref mst :: .int sto :: .ref mwd :: .ref msd :: .int sx_ :: .ref mws :: .int sun :: .ref mfr :: .ref mqu :: .ref miw :: .int sfi :: .int swa :: .long sdx :: .ref mim :: .ref mix :: .ref mmd :: []))), (msd, .inl ((cs 0), 133, .inl gsd))] H ∧ lv_has ls 3 [(2, .int v_51), (1, .int v_499), (0, .ref m0)]) 46 (fun (v_499 : Int32) => []) ?_ (fun hj_500 => ?_)
    · rintro v_499 H locs ls ⟨iv_501, hHe, hlc, hP, hl⟩
      obtain ⟨x_502, e_503⟩ : ∃ z : Int32, z = v_51 + Int32.ofInt 1 := ⟨_, rfl⟩
      have r_504 : Rg 1 8 x_502 := Rg.add e_503 r_429 (Rg.c (c := Int32.ofInt 1) (k := 1) rfl) (by decide)
      refine lv_iinc (v := x_502) (lv' := [(2, .int x_502), (1, .int v_499), (0, .ref m0)]) hx hb dX12_situationNow_46 hl (k := 0) rfl (e_503.symm) (by decide) rfl (fun ls hl => ?_)
      refine lv_goto (tgt := 4) hx hb dX12_situationNow_49 (by decide) ?_
      exact ih_421 (x_502, v_499) _ _ _ ⟨(Rg.wk (lo2 := 0) (hi2 := 8) r_504 (by decide)), ⟨by rw [(cN_add (k := 1) e_503 r_429 (Rg.c (c := Int32.ofInt 1) (k := 1) rfl) (by decide))]; exact iv_501, by rw [(cN_add (k := 1) e_503 r_429 (Rg.c (c := Int32.ofInt 1) (k := 1) rfl) (by decide))]; exact (by have h9 := lt_cN (nle_lt c_428) r_429 r_430 (by decide); rw [e_426] at h9; exact h9)⟩, hHe, hlc, hP, lv_sub hl [0, 1, 2] rfl⟩ (ms_up e_503 r_429 (Rg.c (c := Int32.ofInt 1) (k := 1) rfl) (by decide))
    · refine lv_if_lt (tgt := 46) hx hb dX12_situationNow_23 (by decide) (fun c_481 => ?_) (fun c_481 => ?_)
      · have r_482 : Rg (-1) (-1) x_478 := Rg.lt_l c_481 r_480 (Rg.c (c := 0) (k := 0) rfl) (by decide)
        exact hj_500 v_52 _ _ _ ⟨(SIT_n iv_423.1 (show x_478 = gsd (10 + cN v_51) from by rw [e_479, show Int32.toNatClampNeg x_474 = _ from (ix_add (k := 10) e_475 r_429 (by decide) ⟨by decide, rfl⟩)]) c_481), hHe, hlc, hP, lv_sub hl [0, 1, 2] rfl⟩
      · have r_483 : Rg 0 7 x_478 := Rg.le_r (nlt_le c_481) (Rg.c (c := 0) (k := 0) rfl) r_480 (by decide)
        refine lv_iload_n hx hb dX12_situationNow_26 rfl (lv_at hl 1 rfl) ?_
        refine lv_iconst (v := 1) hx hb dX12_situationNow_27 (by decide) ?_
        refine lv_iload_n hx hb dX12_situationNow_28 rfl (lv_at hl 0 rfl) ?_
        refine lv_ishl hx hb dX12_situationNow_29 ?_
        refine lv_topi (fun x_505 e_506 => ?_)
        have r_507 : Rg 0 128 x_505 := Rg.shl (ha := 1) (k := 7) e_506 (Rg.wk (Rg.c (c := 1) (k := 1) rfl) (by decide)) (Rg.wk r_429 (by decide)) (by decide) (by decide)
        refine lv_sipush (v := 256) hx hb dX12_situationNow_30 (by decide) ?_
        refine lv_aload_n hx hb dX12_situationNow_33 rfl (lv_at hl 2 rfl) ?_
        refine va_get (D := D) (ci := 10) (v := .ref msd) (C := "WrongHoleModel") (T := TX12) (N := 33) hx hb hts (iq_RX12 _) hown hK hP 0 rfl rfl 20 (by decide) (hT _ qq_5_172) (fun _ h9 => h9) rfl dX12_situationNow_34 ?_
        refine lv_bipush (v := 10) hx hb dX12_situationNow_37 (by decide) ?_
        refine lv_iload_n hx hb dX12_situationNow_39 rfl (lv_at hl 0 rfl) ?_
        refine lv_iadd hx hb dX12_situationNow_40 ?_
        refine lv_topi (fun x_508 e_509 => ?_)
        have r_510 : Rg 10 17 x_508 := Rg.add e_509 (Rg.c (c := 10) (k := 10) rfl) r_429 (by decide)
        have hi_511 : vp_in x_508 133 := Rg.in r_510 (by decide)
        refine va_iald hx hb hK hP 1 0 rfl rfl hi_511 dX12_situationNow_41 ?_
        refine lv_topi (fun x_512 e_513 => ?_)
        have r_514 : Rg (-1) 7 x_512 := Rg.of e_513 (hsi.li r_510 (by decide))
        refine lv_ishl hx hb dX12_situationNow_42 ?_
        refine lv_topi (fun x_515 e_516 => ?_)
        refine lv_ior hx hb dX12_situationNow_43 ?_
        refine lv_topi (fun x_517 e_518 => ?_)
        refine lv_ior hx hb dX12_situationNow_44 ?_
        refine lv_topi (fun x_519 e_520 => ?_)
        refine lv_istore_n (lv' := [(1, .int x_519), (2, .int v_51), (0, .ref m0)]) hx hb dX12_situationNow_45 rfl hl (by decide) rfl (fun ls hl => ?_)
        exact hj_500 x_519 _ _ _ ⟨(SIT_s hsi iv_423.1 r_429 (by have h9 := lt_cN (nle_lt c_428) r_429 r_430 (by decide); rw [e_426] at h9; exact h9) (show x_478 = gsd (10 + cN v_51) from by rw [e_479, show Int32.toNatClampNeg x_474 = _ from (ix_add (k := 10) e_475 r_429 (by decide) ⟨by decide, rfl⟩)]) c_481 (show x_512 = gsd (10 + cN v_51) from by rw [e_513, show Int32.toNatClampNeg x_508 = _ from (ix_add (k := 10) e_509 r_429 (by decide) ⟨by decide, rfl⟩)]) e_506 e_516 e_518 e_520), hHe, hlc, hP, lv_sub hl [1, 0, 2] rfl⟩
theorem dX12_canJoin_0 : decode cX12_canJoin 0 = .ok (.iload_n 1, 1) := by decide +kernel
theorem dX12_canJoin_1 : decode cX12_canJoin 1 = .ok (.invokestatic 338, 3) := by decide +kernel
theorem dX12_canJoin_4 : decode cX12_canJoin 4 = .ok (.iload_n 2, 1) := by decide +kernel
theorem dX12_canJoin_5 : decode cX12_canJoin 5 = .ok (.invokestatic 332, 3) := by decide +kernel
theorem dX12_canJoin_8 : decode cX12_canJoin 8 = .ok (.ifCond .ne 23, 3) := by decide +kernel
theorem dX12_canJoin_31 : decode cX12_canJoin 31 = .ok (.iconst 0, 1) := by decide +kernel
theorem dX12_canJoin_32 : decode cX12_canJoin 32 = .ok (.ireturn, 1) := by decide +kernel
theorem dX12_canJoin_11 : decode cX12_canJoin 11 = .ok (.iload_n 1, 1) := by decide +kernel
theorem dX12_canJoin_12 : decode cX12_canJoin 12 = .ok (.invokestatic 335, 3) := by decide +kernel
theorem dX12_canJoin_15 : decode cX12_canJoin 15 = .ok (.iload_n 3, 1) := by decide +kernel
theorem dX12_canJoin_16 : decode cX12_canJoin 16 = .ok (.invokestatic 332, 3) := by decide +kernel
theorem dX12_canJoin_19 : decode cX12_canJoin 19 = .ok (.ifCond .ne 12, 3) := by decide +kernel
theorem dX12_canJoin_22 : decode cX12_canJoin 22 = .ok (.aload_n 0, 1) := by decide +kernel
theorem dX12_canJoin_23 : decode cX12_canJoin 23 = .ok (.iload_n 2, 1) := by decide +kernel
theorem dX12_canJoin_24 : decode cX12_canJoin 24 = .ok (.iload_n 3, 1) := by decide +kernel
theorem dX12_canJoin_25 : decode cX12_canJoin 25 = .ok (.invokevirtual 326, 3) := by decide +kernel
theorem dX12_canJoin_28 : decode cX12_canJoin 28 = .ok (.ifCond .ne 5, 3) := by decide +kernel
theorem dX12_canJoin_33 : decode cX12_canJoin 33 = .ok (.iload_n 1, 1) := by decide +kernel
theorem dX12_canJoin_34 : decode cX12_canJoin 34 = .ok (.invokestatic 338, 3) := by decide +kernel
theorem dX12_canJoin_37 : decode cX12_canJoin 37 = .ok (.iconst 1, 1) := by decide +kernel
theorem dX12_canJoin_38 : decode cX12_canJoin 38 = .ok (.iload_n 2, 1) := by decide +kernel
theorem dX12_canJoin_39 : decode cX12_canJoin 39 = .ok (.ishl, 1) := by decide +kernel
theorem dX12_canJoin_40 : decode cX12_canJoin 40 = .ok (.iconst 1, 1) := by decide +kernel
theorem dX12_canJoin_41 : decode cX12_canJoin 41 = .ok (.isub, 1) := by decide +kernel
theorem dX12_canJoin_42 : decode cX12_canJoin 42 = .ok (.iand, 1) := by decide +kernel
theorem dX12_canJoin_43 : decode cX12_canJoin 43 = .ok (.invokestatic 341, 3) := by decide +kernel
theorem dX12_canJoin_46 : decode cX12_canJoin 46 = .ok (.iload_n 1, 1) := by decide +kernel
theorem dX12_canJoin_47 : decode cX12_canJoin 47 = .ok (.invokestatic 335, 3) := by decide +kernel
theorem dX12_canJoin_50 : decode cX12_canJoin 50 = .ok (.iconst 1, 1) := by decide +kernel
theorem dX12_canJoin_51 : decode cX12_canJoin 51 = .ok (.iload_n 3, 1) := by decide +kernel
theorem dX12_canJoin_52 : decode cX12_canJoin 52 = .ok (.ishl, 1) := by decide +kernel
theorem dX12_canJoin_53 : decode cX12_canJoin 53 = .ok (.iconst 1, 1) := by decide +kernel
theorem dX12_canJoin_54 : decode cX12_canJoin 54 = .ok (.isub, 1) := by decide +kernel
theorem dX12_canJoin_55 : decode cX12_canJoin 55 = .ok (.iand, 1) := by decide +kernel
theorem dX12_canJoin_56 : decode cX12_canJoin 56 = .ok (.invokestatic 341, 3) := by decide +kernel
theorem dX12_canJoin_59 : decode cX12_canJoin 59 = .ok (.if_icmp .ne 7, 3) := by decide +kernel
theorem dX12_canJoin_66 : decode cX12_canJoin 66 = .ok (.iconst 0, 1) := by decide +kernel
theorem dX12_canJoin_67 : decode cX12_canJoin 67 = .ok (.ireturn, 1) := by decide +kernel
theorem dX12_canJoin_62 : decode cX12_canJoin 62 = .ok (.iconst 1, 1) := by decide +kernel
theorem dX12_canJoin_63 : decode cX12_canJoin 63 = .ok (.goto 4, 3) := by decide +kernel
set_option maxHeartbeats 4000000 in
set_option maxRecDepth 100000 in
theorem c_M_canJoin (l : Launch) (D : va_G) (cs : Nat → ClassId) (m0 : Nat) (mtp : Nat) (sta : Int32) (sru : Int32) (msg : Nat) (mln : Nat) (mcl : Nat) (mcs : Nat) (mrd : Nat) (snx : Int32) (swr : Int32) (snu : Int32) (ste : Int32) (sma : Int32) (sde : Int32) (sli : Int32) (mop : Nat) (sod : Int32) (mst : Nat) (sto : Int32) (mwd : Nat) (msd : Nat) (sx_ : Int32) (mws : Nat) (sun : Int32) (mfr : Nat) (mqu : Nat) (miw : Nat) (sfi : Int32) (swa : Int32) (sdx : Int64) (mim : Nat) (mix : Nat) (mmd : Nat) (gsd : Nat → Int32) (a : Int32) (b : Int32) (h : Int32) (hsi : SI gsd) (r_b : Rg 0 7 b) (r_h : Rg 0 7 h) (hbk : BK a) : Met l yX12_canJoin (Cond.code yX12_canJoin cX12_canJoin 4 (some .boolean) :: TB) (RM 2 0 0) (va_Pc [.ref m0, .int a, .int b, .int h] (PRR D cs [(m0, .inr (10, (.ref mtp :: .int sta :: .int sru :: .ref msg :: .ref mln :: .ref mcl :: .ref mcs :: .ref mrd :: .int snx :: .int swr :: .int snu :: .int ste :: .int sma :: .int sde :: .int sli :: .ref mop :: .int sod :: .ref mst :: .int sto :: .ref mwd :: .ref msd :: .int sx_ :: .ref mws :: .int sun :: .ref mfr :: .ref mqu :: .ref miw :: .int sfi :: .int swa :: .long sdx :: .ref mim :: .ref mix :: .ref mmd :: []))), (msd, .inl ((cs 0), 133, .inl gsd))])) (k2_QcV (.int (nI (cjF gsd (cN a) (cN b) (cN h))))) 0 0 (fun _ => False) := by
  refine MER (y := yX12_canJoin) (cc := cX12_canJoin) (maxL := 4) (ret := (some .boolean)) (d := 2) (D := D) (cs := cs) (ws := [(m0, .inr (10, (.ref mtp :: .int sta :: .int sru :: .ref msg :: .ref mln :: .ref mcl :: .ref mcs :: .ref mrd :: .int snx :: .int swr :: .int snu :: .int ste :: .int sma :: .int sde :: .int sli :: .ref mop :: .int sod :: .ref mst :: .int sto :: .ref mwd :: .ref msd :: .int sx_ :: .ref mws :: .int sun :: .ref mfr :: .ref mqu :: .ref miw :: .int sfi :: .int swa :: .long sdx :: .ref mim :: .ref mix :: .ref mmd :: []))), (msd, .inl ((cs 0), 133, .inl gsd))]) (av := [.ref m0, .int a, .int b, .int h]) (Qc := k2_QcV (.int (nI (cjF gsd (cN a) (cN b) (cN h))))) (by decide) (Nat.le_of_ble_eq_true rfl) ?_
  intro p e s m below meth c ls H hHe hx hb hr hml hown hts hlocks hP hK hN hl
  obtain ⟨locs, hlc⟩ : ∃ z : List Loc, z = [] := ⟨_, rfl⟩
  rw [← hlc]
  have hown : s.vm.findClass "WrongHoleModel" = some m.cls := hown
  have hT : ∀ w ∈ TB, w.before ([.ref m0, .int a, .int b, .int h] : List Value).toArray s = true := fun w h => hts w (List.mem_cons_of_mem _ h)
  have hl : lv_has ls 4 [(0, .ref m0), (1, .int a), (2, .int b), (3, .int h)] := hl
  have hP : va_P D vwCl [(m0, .inr (10, (.ref mtp :: .int sta :: .int sru :: .ref msg :: .ref mln :: .ref mcl :: .ref mcs :: .ref mrd :: .int snx :: .int swr :: .int snu :: .int ste :: .int sma :: .int sde :: .int sli :: .ref mop :: .int sod :: .ref mst :: .int sto :: .ref mwd :: .ref msd :: .int sx_ :: .ref mws :: .int sun :: .ref mfr :: .ref mqu :: .ref miw :: .int sfi :: .int swa :: .long sdx :: .ref mim :: .ref mix :: .ref mmd :: []))), (msd, .inl ((cs 0), 133, .inl gsd))] H := hP
  refine lv_iload_n hx hb dX12_canJoin_0 rfl (lv_at hl 1 rfl) ?_
  have hPc := va_P.sub (ws' := []) hP [] rfl
  refine cl_V (W.runS (As := [.int a]) (rest := []) ⟨hx, hb, hml, hown, hts⟩ (c_M_inOf l D cs a hbk.1) ⟨callB_of 1 hts (gd_C qq_7_58) rfl rfl rfl (hT _ qq_1_9) (hT _ qq_7_56) (by decide +kernel) (rm_R rfl rfl), (hT _ qq_7_57)⟩ (pq_S hPc hK hN) rfl rfl hl.1 rfl (lv_room (Nat.le_of_ble_eq_true rfl)) dX12_canJoin_1 ⟨Nat.le_of_ble_eq_true rfl, Nat.le_of_ble_eq_true rfl⟩) ?_
  refine lv_topi (fun x_1 e_2 => ?_)
  have r_3 : Rg 0 255 x_1 := Rg.of e_2 (rg_held _)
  refine lv_iload_n hx hb dX12_canJoin_4 rfl (lv_at hl 2 rfl) ?_
  have hPc := va_P.sub (ws' := []) hP [] rfl
  refine cl_V (W.runS (As := [.int x_1, .int b]) (rest := []) ⟨hx, hb, hml, hown, hts⟩ (c_M_isOf l D cs x_1 b r_3 r_b) ⟨callB_of 2 hts (gd_C qq_7_72) rfl rfl rfl (hT _ qq_1_9) (hT _ qq_7_70) (by decide +kernel) (rm_R rfl rfl), (hT _ qq_7_71)⟩ (pq_S hPc hK hN) rfl rfl hl.1 rfl (lv_room (Nat.le_of_ble_eq_true rfl)) dX12_canJoin_5 ⟨Nat.le_of_ble_eq_true rfl, Nat.le_of_ble_eq_true rfl⟩) ?_
  refine lv_topi (fun x_4 e_5 => ?_)
  have r_6 : Rg 0 1 x_4 := Rg.of e_5 (bt_rg _ _)
  refine lv_if_ne (tgt := 31) hx hb dX12_canJoin_8 (by decide) (fun c_7 => ?_) (fun c_7 => ?_)
  · have r_8 : Rg 1 1 x_4 := Rg.ne c_7 r_6 (Rg.c (c := 0) (k := 0) rfl) (by decide)
    refine lv_iconst (v := 0) hx hb dX12_canJoin_31 (by decide) ?_
    exact W.zret (v := 0) (ty := .boolean) hx hb hr rfl (fun t9 ht9 hW9 => ⟨by rw [show (.int (nI (cjF gsd (cN a) (cN b) (cN h))) : Value) = .int 0 from (congrArg Value.int (show nI (cjF gsd (cN a) (cN b) (cN h)) = 0 from by unfold cjF; rw [if_neg (by rw [(bz_1 (n := cN a % 256) (k := cN b) (show x_4 = nI (bt (cN a % 256) (cN b)) from by rw [e_5, c_held e_2]) c_7)]; decide)]; rfl))], ht9.trans hHe⟩) (fun _ h9 => by rw [hlc] at h9; exact absurd h9 List.not_mem_nil) dX12_canJoin_32
  · have r_9 : Rg 0 0 x_4 := Rg.eq_l c_7 r_6 (Rg.c (c := 0) (k := 0) rfl) (by decide)
    refine lv_iload_n hx hb dX12_canJoin_11 rfl (lv_at hl 1 rfl) ?_
    have hPc := va_P.sub (ws' := []) hP [] rfl
    refine cl_V (W.runS (As := [.int a]) (rest := []) ⟨hx, hb, hml, hown, hts⟩ (c_M_heldOf l D cs a hbk.1) ⟨callB_of 1 hts (gd_C qq_7_78) rfl rfl rfl (hT _ qq_1_9) (hT _ qq_7_76) (by decide +kernel) (rm_R rfl rfl), (hT _ qq_7_77)⟩ (pq_S hPc hK hN) rfl rfl hl.1 rfl (lv_room (Nat.le_of_ble_eq_true rfl)) dX12_canJoin_12 ⟨Nat.le_of_ble_eq_true rfl, Nat.le_of_ble_eq_true rfl⟩) ?_
    refine lv_topi (fun x_10 e_11 => ?_)
    have r_12 : Rg 0 255 x_10 := Rg.of e_11 (rg_in hbk.1)
    refine lv_iload_n hx hb dX12_canJoin_15 rfl (lv_at hl 3 rfl) ?_
    have hPc := va_P.sub (ws' := []) hP [] rfl
    refine cl_V (W.runS (As := [.int x_10, .int h]) (rest := []) ⟨hx, hb, hml, hown, hts⟩ (c_M_isOf l D cs x_10 h r_12 r_h) ⟨callB_of 2 hts (gd_C qq_7_72) rfl rfl rfl (hT _ qq_1_9) (hT _ qq_7_70) (by decide +kernel) (rm_R rfl rfl), (hT _ qq_7_71)⟩ (pq_S hPc hK hN) rfl rfl hl.1 rfl (lv_room (Nat.le_of_ble_eq_true rfl)) dX12_canJoin_16 ⟨Nat.le_of_ble_eq_true rfl, Nat.le_of_ble_eq_true rfl⟩) ?_
    refine lv_topi (fun x_13 e_14 => ?_)
    have r_15 : Rg 0 1 x_13 := Rg.of e_14 (bt_rg _ _)
    refine lv_if_ne (tgt := 31) hx hb dX12_canJoin_19 (by decide) (fun c_16 => ?_) (fun c_16 => ?_)
    · have r_17 : Rg 1 1 x_13 := Rg.ne c_16 r_15 (Rg.c (c := 0) (k := 0) rfl) (by decide)
      refine lv_iconst (v := 0) hx hb dX12_canJoin_31 (by decide) ?_
      exact W.zret (v := 0) (ty := .boolean) hx hb hr rfl (fun t9 ht9 hW9 => ⟨by rw [show (.int (nI (cjF gsd (cN a) (cN b) (cN h))) : Value) = .int 0 from (congrArg Value.int (show nI (cjF gsd (cN a) (cN b) (cN h)) = 0 from by unfold cjF; rw [if_pos (bz_0 (n := cN a % 256) (k := cN b) (show x_4 = nI (bt (cN a % 256) (cN b)) from by rw [e_5, c_held e_2]) c_7), if_neg (by rw [(bz_1 (n := cN a / 256) (k := cN h) (show x_13 = nI (bt (cN a / 256) (cN h)) from by rw [e_14, c_in e_11 hbk.1]) c_16)]; decide)]; rfl))], ht9.trans hHe⟩) (fun _ h9 => by rw [hlc] at h9; exact absurd h9 List.not_mem_nil) dX12_canJoin_32
    · have r_18 : Rg 0 0 x_13 := Rg.eq_l c_16 r_15 (Rg.c (c := 0) (k := 0) rfl) (by decide)
      refine lv_aload_n hx hb dX12_canJoin_22 rfl (lv_at hl 0 rfl) ?_
      refine lv_iload_n hx hb dX12_canJoin_23 rfl (lv_at hl 2 rfl) ?_
      refine lv_iload_n hx hb dX12_canJoin_24 rfl (lv_at hl 3 rfl) ?_
      have hPc := va_P.sub (ws' := [(m0, .inr (10, (.ref mtp :: .int sta :: .int sru :: .ref msg :: .ref mln :: .ref mcl :: .ref mcs :: .ref mrd :: .int snx :: .int swr :: .int snu :: .int ste :: .int sma :: .int sde :: .int sli :: .ref mop :: .int sod :: .ref mst :: .int sto :: .ref mwd :: .ref msd :: .int sx_ :: .ref mws :: .int sun :: .ref mfr :: .ref mqu :: .ref miw :: .int sfi :: .int swa :: .long sdx :: .ref mim :: .ref mix :: .ref mmd :: []))), (msd, .inl ((cs 0), 133, .inl gsd))]) hP [0, 1] rfl
      refine cl_V (W.runV (As := [.int b, .int h]) (rest := []) ⟨hx, hb, hml, hown, hts⟩ (c_M_fits l D cs m0 mtp sta sru msg mln mcl mcs mrd snx swr snu ste sma sde sli mop sod mst sto mwd msd sx_ mws sun mfr mqu miw sfi swa sdx mim mix mmd gsd b h hsi r_b r_h) ⟨callB_of 2 hts (gd_C qq_7_25) rfl rfl rfl (hT _ qq_1_9) (hT _ qq_7_22) (by decide +kernel) (rm_R rfl rfl), (hT _ qq_7_24), (hT _ qs_4_15)⟩ (pq_V hPc hK hN (ci := 10) (q0 := 0) rfl rfl) rfl rfl hl.1 rfl (lv_room (Nat.le_of_ble_eq_true rfl)) dX12_canJoin_25 ⟨Nat.le_of_ble_eq_true rfl, Nat.le_of_ble_eq_true rfl⟩) ?_
      refine lv_topi (fun x_19 e_20 => ?_)
      have r_21 : Rg 0 1 x_19 := Rg.of e_20 (fit_rg _ _ _)
      refine lv_if_ne (tgt := 33) hx hb dX12_canJoin_28 (by decide) (fun c_22 => ?_) (fun c_22 => ?_)
      · have r_23 : Rg 1 1 x_19 := Rg.ne c_22 r_21 (Rg.c (c := 0) (k := 0) rfl) (by decide)
        refine lv_iload_n hx hb dX12_canJoin_33 rfl (lv_at hl 1 rfl) ?_
        have hPc := va_P.sub (ws' := []) hP [] rfl
        refine cl_V (W.runS (As := [.int a]) (rest := []) ⟨hx, hb, hml, hown, hts⟩ (c_M_inOf l D cs a hbk.1) ⟨callB_of 1 hts (gd_C qq_7_58) rfl rfl rfl (hT _ qq_1_9) (hT _ qq_7_56) (by decide +kernel) (rm_R rfl rfl), (hT _ qq_7_57)⟩ (pq_S hPc hK hN) rfl rfl hl.1 rfl (lv_room (Nat.le_of_ble_eq_true rfl)) dX12_canJoin_34 ⟨Nat.le_of_ble_eq_true rfl, Nat.le_of_ble_eq_true rfl⟩) ?_
        refine lv_topi (fun x_25 e_26 => ?_)
        have r_27 : Rg 0 255 x_25 := Rg.of e_26 (rg_held _)
        refine lv_iconst (v := 1) hx hb dX12_canJoin_37 (by decide) ?_
        refine lv_iload_n hx hb dX12_canJoin_38 rfl (lv_at hl 2 rfl) ?_
        refine lv_ishl hx hb dX12_canJoin_39 ?_
        refine lv_topi (fun x_28 e_29 => ?_)
        have r_30 : Rg 0 128 x_28 := Rg.shl (ha := 1) (k := 7) e_29 (Rg.wk (Rg.c (c := 1) (k := 1) rfl) (by decide)) (Rg.wk r_b (by decide)) (by decide) (by decide)
        refine lv_iconst (v := 1) hx hb dX12_canJoin_40 (by decide) ?_
        refine lv_isub hx hb dX12_canJoin_41 ?_
        refine lv_topi (fun x_31 e_32 => ?_)
        have r_33 : Rg (-1) 127 x_31 := Rg.sub e_32 r_30 (Rg.c (c := 1) (k := 1) rfl) (by decide)
        refine lv_iand hx hb dX12_canJoin_42 ?_
        refine lv_topi (fun x_34 e_35 => ?_)
        have r_36 : Rg 0 255 x_34 := Rg.andl e_35 r_27 (by decide)
        have hPc := va_P.sub (ws' := []) hP [] rfl
        refine cl_V (W.runS (As := [.int x_34]) (rest := []) ⟨hx, hb, hml, hown, hts⟩ (c_M_bits l D cs x_34 r_36) ⟨callB_of 1 hts (gd_C qq_7_61) rfl rfl rfl (hT _ qq_1_9) (hT _ qq_7_59) (by decide +kernel) (rm_R rfl rfl), (hT _ qq_7_60)⟩ (pq_S hPc hK hN) rfl rfl hl.1 rfl (lv_room (Nat.le_of_ble_eq_true rfl)) dX12_canJoin_43 ⟨Nat.le_of_ble_eq_true rfl, Nat.le_of_ble_eq_true rfl⟩) ?_
        refine lv_topi (fun x_37 e_38 => ?_)
        have r_39 : Rg 0 8 x_37 := Rg.of e_38 (pc_rg _)
        refine lv_iload_n hx hb dX12_canJoin_46 rfl (lv_at hl 1 rfl) ?_
        have hPc := va_P.sub (ws' := []) hP [] rfl
        refine cl_V (W.runS (As := [.int a]) (rest := [.int x_37]) ⟨hx, hb, hml, hown, hts⟩ (c_M_heldOf l D cs a hbk.1) ⟨callB_of 1 hts (gd_C qq_7_78) rfl rfl rfl (hT _ qq_1_9) (hT _ qq_7_76) (by decide +kernel) (rm_R rfl rfl), (hT _ qq_7_77)⟩ (pq_S hPc hK hN) rfl rfl hl.1 rfl (lv_room (Nat.le_of_ble_eq_true rfl)) dX12_canJoin_47 ⟨Nat.le_of_ble_eq_true rfl, Nat.le_of_ble_eq_true rfl⟩) ?_
        refine lv_topi (fun x_40 e_41 => ?_)
        have r_42 : Rg 0 255 x_40 := Rg.of e_41 (rg_in hbk.1)
        refine lv_iconst (v := 1) hx hb dX12_canJoin_50 (by decide) ?_
        refine lv_iload_n hx hb dX12_canJoin_51 rfl (lv_at hl 3 rfl) ?_
        refine lv_ishl hx hb dX12_canJoin_52 ?_
        refine lv_topi (fun x_43 e_44 => ?_)
        have r_45 : Rg 0 128 x_43 := Rg.shl (ha := 1) (k := 7) e_44 (Rg.wk (Rg.c (c := 1) (k := 1) rfl) (by decide)) (Rg.wk r_h (by decide)) (by decide) (by decide)
        refine lv_iconst (v := 1) hx hb dX12_canJoin_53 (by decide) ?_
        refine lv_isub hx hb dX12_canJoin_54 ?_
        refine lv_topi (fun x_46 e_47 => ?_)
        have r_48 : Rg (-1) 127 x_46 := Rg.sub e_47 r_45 (Rg.c (c := 1) (k := 1) rfl) (by decide)
        refine lv_iand hx hb dX12_canJoin_55 ?_
        refine lv_topi (fun x_49 e_50 => ?_)
        have r_51 : Rg 0 255 x_49 := Rg.andl e_50 r_42 (by decide)
        have hPc := va_P.sub (ws' := []) hP [] rfl
        refine cl_V (W.runS (As := [.int x_49]) (rest := [.int x_37]) ⟨hx, hb, hml, hown, hts⟩ (c_M_bits l D cs x_49 r_51) ⟨callB_of 1 hts (gd_C qq_7_61) rfl rfl rfl (hT _ qq_1_9) (hT _ qq_7_59) (by decide +kernel) (rm_R rfl rfl), (hT _ qq_7_60)⟩ (pq_S hPc hK hN) rfl rfl hl.1 rfl (lv_room (Nat.le_of_ble_eq_true rfl)) dX12_canJoin_56 ⟨Nat.le_of_ble_eq_true rfl, Nat.le_of_ble_eq_true rfl⟩) ?_
        refine lv_topi (fun x_52 e_53 => ?_)
        have r_54 : Rg 0 8 x_52 := Rg.of e_53 (pc_rg _)
        refine lv_icmp_ne (tgt := 66) hx hb dX12_canJoin_59 (by decide) (fun c_55 => ?_) (fun c_55 => ?_)
        · refine lv_iconst (v := 0) hx hb dX12_canJoin_66 (by decide) ?_
          exact W.zret (v := 0) (ty := .boolean) hx hb hr rfl (fun t9 ht9 hW9 => ⟨by rw [show (.int (nI (cjF gsd (cN a) (cN b) (cN h))) : Value) = .int 0 from (congrArg Value.int (show nI (cjF gsd (cN a) (cN b) (cN h)) = 0 from by unfold cjF; rw [if_pos (bz_0 (n := cN a % 256) (k := cN b) (show x_4 = nI (bt (cN a % 256) (cN b)) from by rw [e_5, c_held e_2]) c_7), if_pos (bz_0 (n := cN a / 256) (k := cN h) (show x_13 = nI (bt (cN a / 256) (cN h)) from by rw [e_14, c_in e_11 hbk.1]) c_16), if_neg (fz_1 e_20 c_22), if_neg (fun h9 => c_55 ((pc_ne (show x_37 = nI (pc (cN a % 256 % 2 ^ cN b)) from by rw [e_38, cj_bits (a := 0) r_b r_27 e_29 e_32 e_35, c_held e_26]) (show x_52 = nI (pc (cN a / 256 % 2 ^ cN h)) from by rw [e_53, cj_bits (a := 0) r_h r_42 e_44 e_47 e_50, c_in e_41 hbk.1])).mpr h9))]; rfl))], ht9.trans hHe⟩) (fun _ h9 => by rw [hlc] at h9; exact absurd h9 List.not_mem_nil) dX12_canJoin_67
        · refine lv_iconst (v := 1) hx hb dX12_canJoin_62 (by decide) ?_
          refine lv_goto (tgt := 67) hx hb dX12_canJoin_63 (by decide) ?_
          exact W.zret (v := 1) (ty := .boolean) hx hb hr rfl (fun t9 ht9 hW9 => ⟨by rw [show (.int (nI (cjF gsd (cN a) (cN b) (cN h))) : Value) = .int 1 from (congrArg Value.int (show nI (cjF gsd (cN a) (cN b) (cN h)) = 1 from by unfold cjF; rw [if_pos (bz_0 (n := cN a % 256) (k := cN b) (show x_4 = nI (bt (cN a % 256) (cN b)) from by rw [e_5, c_held e_2]) c_7), if_pos (bz_0 (n := cN a / 256) (k := cN h) (show x_13 = nI (bt (cN a / 256) (cN h)) from by rw [e_14, c_in e_11 hbk.1]) c_16), if_neg (fz_1 e_20 c_22), if_pos ((pc_ne (show x_37 = nI (pc (cN a % 256 % 2 ^ cN b)) from by rw [e_38, cj_bits (a := 0) r_b r_27 e_29 e_32 e_35, c_held e_26]) (show x_52 = nI (pc (cN a / 256 % 2 ^ cN h)) from by rw [e_53, cj_bits (a := 0) r_h r_42 e_44 e_47 e_50, c_in e_41 hbk.1])).mp c_55)]; rfl))], ht9.trans hHe⟩) (fun _ h9 => by rw [hlc] at h9; exact absurd h9 List.not_mem_nil) dX12_canJoin_67
      · have r_24 : Rg 0 0 x_19 := Rg.eq_l c_22 r_21 (Rg.c (c := 0) (k := 0) rfl) (by decide)
        refine lv_iconst (v := 0) hx hb dX12_canJoin_31 (by decide) ?_
        exact W.zret (v := 0) (ty := .boolean) hx hb hr rfl (fun t9 ht9 hW9 => ⟨by rw [show (.int (nI (cjF gsd (cN a) (cN b) (cN h))) : Value) = .int 0 from (congrArg Value.int (show nI (cjF gsd (cN a) (cN b) (cN h)) = 0 from by unfold cjF; rw [if_pos (bz_0 (n := cN a % 256) (k := cN b) (show x_4 = nI (bt (cN a % 256) (cN b)) from by rw [e_5, c_held e_2]) c_7), if_pos (bz_0 (n := cN a / 256) (k := cN h) (show x_13 = nI (bt (cN a / 256) (cN h)) from by rw [e_14, c_in e_11 hbk.1]) c_16), if_pos (fz_0 e_20 c_22 (by have := fit_lt gsd (cN b) (cN h); omega))]; rfl))], ht9.trans hHe⟩) (fun _ h9 => by rw [hlc] at h9; exact absurd h9 List.not_mem_nil) dX12_canJoin_32
