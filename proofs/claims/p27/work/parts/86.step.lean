theorem dX12_stepFrom_0 : decode cX12_stepFrom 0 = .ok (.aload_n 0, 1) := by decide +kernel
theorem dX12_stepFrom_1 : decode cX12_stepFrom 1 = .ok (.getfield 46, 3) := by decide +kernel
theorem dX12_stepFrom_4 : decode cX12_stepFrom 4 = .ok (.iload_n 1, 1) := by decide +kernel
theorem dX12_stepFrom_5 : decode cX12_stepFrom 5 = .ok (.iaload, 1) := by decide +kernel
theorem dX12_stepFrom_6 : decode cX12_stepFrom 6 = .ok (.ifCond .gt 5, 3) := by decide +kernel
theorem dX12_stepFrom_11 : decode cX12_stepFrom 11 = .ok (.iconst 0, 1) := by decide +kernel
theorem dX12_stepFrom_12 : decode cX12_stepFrom 12 = .ok (.istore_n 2, 1) := by decide +kernel
theorem dX12_stepFrom_13 : decode cX12_stepFrom 13 = .ok (.iload_n 2, 1) := by decide +kernel
theorem dX12_stepFrom_14 : decode cX12_stepFrom 14 = .ok (.bipush 72, 2) := by decide +kernel
theorem dX12_stepFrom_16 : decode cX12_stepFrom 16 = .ok (.if_icmp .ge 52, 3) := by decide +kernel
theorem dX12_stepFrom_68 : decode cX12_stepFrom 68 = .ok (.iconst (-1), 1) := by decide +kernel
theorem dX12_stepFrom_69 : decode cX12_stepFrom 69 = .ok (.ireturn, 1) := by decide +kernel
theorem dX12_stepFrom_19 : decode cX12_stepFrom 19 = .ok (.aload_n 0, 1) := by decide +kernel
theorem dX12_stepFrom_20 : decode cX12_stepFrom 20 = .ok (.iload_n 1, 1) := by decide +kernel
theorem dX12_stepFrom_21 : decode cX12_stepFrom 21 = .ok (.iload_n 2, 1) := by decide +kernel
theorem dX12_stepFrom_22 : decode cX12_stepFrom 22 = .ok (.invokevirtual 413, 3) := by decide +kernel
theorem dX12_stepFrom_25 : decode cX12_stepFrom 25 = .ok (.istore_n 3, 1) := by decide +kernel
theorem dX12_stepFrom_26 : decode cX12_stepFrom 26 = .ok (.iload_n 3, 1) := by decide +kernel
theorem dX12_stepFrom_27 : decode cX12_stepFrom 27 = .ok (.ifCond .lt 35, 3) := by decide +kernel
theorem dX12_stepFrom_62 : decode cX12_stepFrom 62 = .ok (.iinc 2 1, 3) := by decide +kernel
theorem dX12_stepFrom_65 : decode cX12_stepFrom 65 = .ok (.goto (-52), 3) := by decide +kernel
theorem dX12_stepFrom_30 : decode cX12_stepFrom 30 = .ok (.aload_n 0, 1) := by decide +kernel
theorem dX12_stepFrom_31 : decode cX12_stepFrom 31 = .ok (.getfield 46, 3) := by decide +kernel
theorem dX12_stepFrom_34 : decode cX12_stepFrom 34 = .ok (.iload_n 3, 1) := by decide +kernel
theorem dX12_stepFrom_35 : decode cX12_stepFrom 35 = .ok (.iaload, 1) := by decide +kernel
theorem dX12_stepFrom_36 : decode cX12_stepFrom 36 = .ok (.ifCond .lt 26, 3) := by decide +kernel
theorem dX12_stepFrom_39 : decode cX12_stepFrom 39 = .ok (.aload_n 0, 1) := by decide +kernel
theorem dX12_stepFrom_40 : decode cX12_stepFrom 40 = .ok (.getfield 46, 3) := by decide +kernel
theorem dX12_stepFrom_43 : decode cX12_stepFrom 43 = .ok (.iload_n 3, 1) := by decide +kernel
theorem dX12_stepFrom_44 : decode cX12_stepFrom 44 = .ok (.iaload, 1) := by decide +kernel
theorem dX12_stepFrom_45 : decode cX12_stepFrom 45 = .ok (.aload_n 0, 1) := by decide +kernel
theorem dX12_stepFrom_46 : decode cX12_stepFrom 46 = .ok (.iload_n 2, 1) := by decide +kernel
theorem dX12_stepFrom_47 : decode cX12_stepFrom 47 = .ok (.invokevirtual 416, 3) := by decide +kernel
theorem dX12_stepFrom_50 : decode cX12_stepFrom 50 = .ok (.iadd, 1) := by decide +kernel
theorem dX12_stepFrom_51 : decode cX12_stepFrom 51 = .ok (.aload_n 0, 1) := by decide +kernel
theorem dX12_stepFrom_52 : decode cX12_stepFrom 52 = .ok (.getfield 46, 3) := by decide +kernel
theorem dX12_stepFrom_55 : decode cX12_stepFrom 55 = .ok (.iload_n 1, 1) := by decide +kernel
theorem dX12_stepFrom_56 : decode cX12_stepFrom 56 = .ok (.iaload, 1) := by decide +kernel
theorem dX12_stepFrom_57 : decode cX12_stepFrom 57 = .ok (.if_icmp .ne 5, 3) := by decide +kernel
theorem dX12_stepFrom_60 : decode cX12_stepFrom 60 = .ok (.iload_n 2, 1) := by decide +kernel
theorem dX12_stepFrom_61 : decode cX12_stepFrom 61 = .ok (.ireturn, 1) := by decide +kernel
theorem dX12_stepFrom_9 : decode cX12_stepFrom 9 = .ok (.iconst (-1), 1) := by decide +kernel
theorem dX12_stepFrom_10 : decode cX12_stepFrom 10 = .ok (.ireturn, 1) := by decide +kernel
set_option maxHeartbeats 4000000 in
set_option maxRecDepth 100000 in
theorem c_M_stepFrom (l : Launch) (D : va_G) (cs : Nat → ClassId) (m0 : Nat) (mtp : Nat) (sta : Int32) (sru : Int32) (msg : Nat) (mln : Nat) (mcl : Nat) (mcs : Nat) (mrd : Nat) (snx : Int32) (swr : Int32) (snu : Int32) (ste : Int32) (sma : Int32) (sde : Int32) (sli : Int32) (mop : Nat) (sod : Int32) (mst : Nat) (sto : Int32) (mwd : Nat) (msd : Nat) (sx_ : Int32) (mws : Nat) (sun : Int32) (mfr : Nat) (mqu : Nat) (miw : Nat) (sfi : Int32) (swa : Int32) (sdx : Int64) (mim : Nat) (mix : Nat) (mmd : Nat) (gsd : Nat → Int32) (gfr : Nat → Int32) (a : Int32) (hsi : SI gsd) (hbk : BK a) (hfa : FAR gfr) : Met l yX12_stepFrom (Cond.code yX12_stepFrom cX12_stepFrom 4 (some .int) :: TB) (RM 6 0 0) (va_Pc [.ref m0, .int a] (PRR D cs [(m0, .inr (10, (.ref mtp :: .int sta :: .int sru :: .ref msg :: .ref mln :: .ref mcl :: .ref mcs :: .ref mrd :: .int snx :: .int swr :: .int snu :: .int ste :: .int sma :: .int sde :: .int sli :: .ref mop :: .int sod :: .ref mst :: .int sto :: .ref mwd :: .ref msd :: .int sx_ :: .ref mws :: .int sun :: .ref mfr :: .ref mqu :: .ref miw :: .int sfi :: .int swa :: .long sdx :: .ref mim :: .ref mix :: .ref mmd :: []))), (msd, .inl ((cs 0), 133, .inl gsd)), (mfr, .inl ((cs 0), 65536, .inl gfr))])) (QP (fun v => ∃ x : Int32, v = .int x ∧ Rg (-1) 71 x ∧ STP gsd gfr a x)) 0 0 (fun _ => False) := by
  refine MER (y := yX12_stepFrom) (cc := cX12_stepFrom) (maxL := 4) (ret := (some .int)) (d := 6) (D := D) (cs := cs) (ws := [(m0, .inr (10, (.ref mtp :: .int sta :: .int sru :: .ref msg :: .ref mln :: .ref mcl :: .ref mcs :: .ref mrd :: .int snx :: .int swr :: .int snu :: .int ste :: .int sma :: .int sde :: .int sli :: .ref mop :: .int sod :: .ref mst :: .int sto :: .ref mwd :: .ref msd :: .int sx_ :: .ref mws :: .int sun :: .ref mfr :: .ref mqu :: .ref miw :: .int sfi :: .int swa :: .long sdx :: .ref mim :: .ref mix :: .ref mmd :: []))), (msd, .inl ((cs 0), 133, .inl gsd)), (mfr, .inl ((cs 0), 65536, .inl gfr))]) (av := [.ref m0, .int a]) (Qc := QP (fun v => ∃ x : Int32, v = .int x ∧ Rg (-1) 71 x ∧ STP gsd gfr a x)) (by decide) (Nat.le_of_ble_eq_true rfl) ?_
  intro p e s m below meth c ls H hHe hx hb hr hml hown hts hlocks hP hK hN hl
  obtain ⟨locs, hlc⟩ : ∃ z : List Loc, z = [] := ⟨_, rfl⟩
  rw [← hlc]
  have hown : s.vm.findClass "WrongHoleModel" = some m.cls := hown
  have hT : ∀ w ∈ TB, w.before ([.ref m0, .int a] : List Value).toArray s = true := fun w h => hts w (List.mem_cons_of_mem _ h)
  have hl : lv_has ls 4 [(0, .ref m0), (1, .int a)] := hl
  have hP : va_P D vwCl [(m0, .inr (10, (.ref mtp :: .int sta :: .int sru :: .ref msg :: .ref mln :: .ref mcl :: .ref mcs :: .ref mrd :: .int snx :: .int swr :: .int snu :: .int ste :: .int sma :: .int sde :: .int sli :: .ref mop :: .int sod :: .ref mst :: .int sto :: .ref mwd :: .ref msd :: .int sx_ :: .ref mws :: .int sun :: .ref mfr :: .ref mqu :: .ref miw :: .int sfi :: .int swa :: .long sdx :: .ref mim :: .ref mix :: .ref mmd :: []))), (msd, .inl ((cs 0), 133, .inl gsd)), (mfr, .inl ((cs 0), 65536, .inl gfr))] H := hP
  refine lv_aload_n hx hb dX12_stepFrom_0 rfl (lv_at hl 0 rfl) ?_
  refine va_get (D := D) (ci := 10) (v := .ref mfr) (C := "WrongHoleModel") (T := TX12) (N := 33) hx hb hts (iq_RX12 _) hown hK hP 0 rfl rfl 24 (by decide) (hT _ qq_5_176) (fun _ h9 => h9) rfl dX12_stepFrom_1 ?_
  refine lv_iload_n hx hb dX12_stepFrom_4 rfl (lv_at hl 1 rfl) ?_
  have hi_1 : vp_in a 65536 := Rg.in hbk.1 (by decide)
  refine va_iald hx hb hK hP 2 0 rfl rfl hi_1 dX12_stepFrom_5 ?_
  refine lv_topi (fun x_2 e_3 => ?_)
  have r_4 : Rg (-1) 6619136 x_2 := Rg.of e_3 (hfa.rg hbk.1 (by decide))
  refine lv_if_gt (tgt := 11) hx hb dX12_stepFrom_6 (by decide) (fun c_5 => ?_) (fun c_5 => ?_)
  · have r_6 : Rg 1 6619136 x_2 := Rg.lt_r c_5 (Rg.c (c := 0) (k := 0) rfl) r_4 (by decide)
    refine lv_iconst (v := 0) hx hb dX12_stepFrom_11 (by decide) ?_
    refine lv_istore_n (lv' := [(2, .int 0), (0, .ref m0), (1, .int a)]) hx hb dX12_stepFrom_12 rfl hl (by decide) rfl (fun ls hl => ?_)
    refine w_wh (σ := (Int32)) (fun (v_36 : Int32) H locs ls => Rg 0 72 v_36 ∧ H = s.heap ∧ locs = [] ∧ va_P D vwCl [(m0, .inr (10, (.ref mtp :: .int sta :: .int sru :: .ref msg :: .ref mln :: .ref mcl :: .ref mcs :: .ref mrd :: .int snx :: .int swr :: .int snu :: .int ste :: .int sma :: .int sde :: .int sli :: .ref mop :: .int sod :: .ref mst :: .int sto :: .ref mwd :: .ref msd :: .int sx_ :: .ref mws :: .int sun :: .ref mfr :: .ref mqu :: .ref miw :: .int sfi :: .int swa :: .long sdx :: .ref mim :: .ref mix :: .ref mmd :: []))), (msd, .inl ((cs 0), 133, .inl gsd)), (mfr, .inl ((cs 0), 65536, .inl gfr))] H ∧ lv_has ls 4 [(2, .int v_36), (0, .ref m0), (1, .int a)]) (fun (v_36 : Int32) => (72 - Int32.toInt v_36).toNat) 13 ?_ 0 H locs ls ⟨(Rg.wk (lo2 := 0) (hi2 := 72) (Rg.c (c := 0) (k := 0) rfl) (by decide)), hHe, hlc, hP, lv_sub hl [0, 1, 2] rfl⟩
    rintro v_36 H locs ls ⟨r_268, hHe, hlc, hP, hl⟩ ih_267
    refine lv_iload_n hx hb dX12_stepFrom_13 rfl (lv_at hl 0 rfl) ?_
    refine lv_bipush (v := 72) hx hb dX12_stepFrom_14 (by decide) ?_
    refine lv_icmp_ge (tgt := 68) hx hb dX12_stepFrom_16 (by decide) (fun c_269 => ?_) (fun c_269 => ?_)
    · have r_270 : Rg 72 72 v_36 := Rg.le_r c_269 (Rg.c (c := 72) (k := 72) rfl) r_268 (by decide)
      refine lv_iconst (v := (-1)) hx hb dX12_stepFrom_68 (by decide) ?_
      exact W.iret (v := (-1)) hx hb hr (fun t9 ht9 hW9 => ⟨⟨_, rfl, _, rfl, ⟨⟨by decide, by decide⟩, st_no⟩⟩, ht9.trans hHe⟩) (fun _ h9 => by rw [hlc] at h9; exact absurd h9 List.not_mem_nil) dX12_stepFrom_69
    · have r_271 : Rg 0 71 v_36 := Rg.lt_l (nle_lt c_269) r_268 (Rg.c (c := 72) (k := 72) rfl) (by decide)
      refine lv_aload_n hx hb dX12_stepFrom_19 rfl (lv_at hl 1 rfl) ?_
      refine lv_iload_n hx hb dX12_stepFrom_20 rfl (lv_at hl 2 rfl) ?_
      refine lv_iload_n hx hb dX12_stepFrom_21 rfl (lv_at hl 0 rfl) ?_
      have hPc := va_P.sub (ws' := [(m0, .inr (10, (.ref mtp :: .int sta :: .int sru :: .ref msg :: .ref mln :: .ref mcl :: .ref mcs :: .ref mrd :: .int snx :: .int swr :: .int snu :: .int ste :: .int sma :: .int sde :: .int sli :: .ref mop :: .int sod :: .ref mst :: .int sto :: .ref mwd :: .ref msd :: .int sx_ :: .ref mws :: .int sun :: .ref mfr :: .ref mqu :: .ref miw :: .int sfi :: .int swa :: .long sdx :: .ref mim :: .ref mix :: .ref mmd :: []))), (msd, .inl ((cs 0), 133, .inl gsd))]) hP [0, 1] rfl
      refine cl_P (W.runV (As := [.int a, .int v_36]) (rest := []) ⟨hx, hb, hml, hown, hts⟩ (c_M_behindLawful l D cs m0 mtp sta sru msg mln mcl mcs mrd snx swr snu ste sma sde sli mop sod mst sto mwd msd sx_ mws sun mfr mqu miw sfi swa sdx mim mix mmd gsd a v_36 hsi r_271 hbk) ⟨callB_of 2 hts (gd_C qq_7_122) rfl rfl rfl (hT _ qq_1_9) (hT _ qq_7_119) (by decide +kernel) (rm_R rfl rfl), (hT _ qq_7_121), (hT _ qs_5_13)⟩ (pq_V hPc hK hN (ci := 10) (q0 := 0) rfl rfl) rfl rfl hl.1 rfl (lv_room (Nat.le_of_ble_eq_true rfl)) dX12_stepFrom_22 ⟨Nat.le_of_ble_eq_true rfl, Nat.le_of_ble_eq_true rfl⟩) (fun v9 hz_273 => ?_)
      obtain ⟨x_272, rfl, r_274⟩ := hz_273
      refine lv_istore_n (lv' := [(3, .int x_272), (2, .int v_36), (0, .ref m0), (1, .int a)]) hx hb dX12_stepFrom_25 rfl hl (by decide) rfl (fun ls hl => ?_)
      refine lv_iload_n hx hb dX12_stepFrom_26 rfl (lv_at hl 0 rfl) ?_
      refine lv_if_lt (tgt := 62) hx hb dX12_stepFrom_27 (by decide) (fun c_275 => ?_) (fun c_275 => ?_)
      · have r_276 : Rg (-1) (-1) x_272 := Rg.lt_l c_275 r_274.1 (Rg.c (c := 0) (k := 0) rfl) (by decide)
        obtain ⟨x_278, e_279⟩ : ∃ z : Int32, z = v_36 + Int32.ofInt 1 := ⟨_, rfl⟩
        have r_280 : Rg 1 72 x_278 := Rg.add e_279 r_271 (Rg.c (c := Int32.ofInt 1) (k := 1) rfl) (by decide)
        refine lv_iinc (v := x_278) (lv' := [(2, .int x_278), (3, .int x_272), (0, .ref m0), (1, .int a)]) hx hb dX12_stepFrom_62 hl (k := 1) rfl (e_279.symm) (by decide) rfl (fun ls hl => ?_)
        refine lv_goto (tgt := 13) hx hb dX12_stepFrom_65 (by decide) ?_
        exact ih_267 x_278 _ _ _ ⟨(Rg.wk (lo2 := 0) (hi2 := 72) r_280 (by decide)), hHe, hlc, hP, lv_sub hl [0, 2, 3] rfl⟩ (ms_up e_279 r_271 (Rg.c (c := Int32.ofInt 1) (k := 1) rfl) (by decide))
      · have r_277 : Rg 0 65535 x_272 := Rg.le_r (nlt_le c_275) (Rg.c (c := 0) (k := 0) rfl) r_274.1 (by decide)
        refine lv_aload_n hx hb dX12_stepFrom_30 rfl (lv_at hl 2 rfl) ?_
        refine va_get (D := D) (ci := 10) (v := .ref mfr) (C := "WrongHoleModel") (T := TX12) (N := 33) hx hb hts (iq_RX12 _) hown hK hP 0 rfl rfl 24 (by decide) (hT _ qq_5_176) (fun _ h9 => h9) rfl dX12_stepFrom_31 ?_
        refine lv_iload_n hx hb dX12_stepFrom_34 rfl (lv_at hl 0 rfl) ?_
        have hi_281 : vp_in x_272 65536 := Rg.in r_277 (by decide)
        refine va_iald hx hb hK hP 2 0 rfl rfl hi_281 dX12_stepFrom_35 ?_
        refine lv_topi (fun x_282 e_283 => ?_)
        have r_284 : Rg (-1) 6619136 x_282 := Rg.of e_283 (hfa.rg r_277 (by decide))
        refine lv_if_lt (tgt := 62) hx hb dX12_stepFrom_36 (by decide) (fun c_285 => ?_) (fun c_285 => ?_)
        · have r_286 : Rg (-1) (-1) x_282 := Rg.lt_l c_285 r_284 (Rg.c (c := 0) (k := 0) rfl) (by decide)
          obtain ⟨x_288, e_289⟩ : ∃ z : Int32, z = v_36 + Int32.ofInt 1 := ⟨_, rfl⟩
          have r_290 : Rg 1 72 x_288 := Rg.add e_289 r_271 (Rg.c (c := Int32.ofInt 1) (k := 1) rfl) (by decide)
          refine lv_iinc (v := x_288) (lv' := [(2, .int x_288), (3, .int x_272), (0, .ref m0), (1, .int a)]) hx hb dX12_stepFrom_62 hl (k := 1) rfl (e_289.symm) (by decide) rfl (fun ls hl => ?_)
          refine lv_goto (tgt := 13) hx hb dX12_stepFrom_65 (by decide) ?_
          exact ih_267 x_288 _ _ _ ⟨(Rg.wk (lo2 := 0) (hi2 := 72) r_290 (by decide)), hHe, hlc, hP, lv_sub hl [0, 2, 3] rfl⟩ (ms_up e_289 r_271 (Rg.c (c := Int32.ofInt 1) (k := 1) rfl) (by decide))
        · have r_287 : Rg 0 6619136 x_282 := Rg.le_r (nlt_le c_285) (Rg.c (c := 0) (k := 0) rfl) r_284 (by decide)
          refine lv_aload_n hx hb dX12_stepFrom_39 rfl (lv_at hl 2 rfl) ?_
          refine va_get (D := D) (ci := 10) (v := .ref mfr) (C := "WrongHoleModel") (T := TX12) (N := 33) hx hb hts (iq_RX12 _) hown hK hP 0 rfl rfl 24 (by decide) (hT _ qq_5_176) (fun _ h9 => h9) rfl dX12_stepFrom_40 ?_
          refine lv_iload_n hx hb dX12_stepFrom_43 rfl (lv_at hl 0 rfl) ?_
          have hi_291 : vp_in x_272 65536 := Rg.in r_277 (by decide)
          refine va_iald hx hb hK hP 2 0 rfl rfl hi_291 dX12_stepFrom_44 ?_
          refine lv_topi (fun x_292 e_293 => ?_)
          have r_294 : Rg (-1) 6619136 x_292 := Rg.of e_293 (hfa.rg r_277 (by decide))
          refine lv_aload_n hx hb dX12_stepFrom_45 rfl (lv_at hl 2 rfl) ?_
          refine lv_iload_n hx hb dX12_stepFrom_46 rfl (lv_at hl 1 rfl) ?_
          have hPc := va_P.sub (ws' := [(m0, .inr (10, (.ref mtp :: .int sta :: .int sru :: .ref msg :: .ref mln :: .ref mcl :: .ref mcs :: .ref mrd :: .int snx :: .int swr :: .int snu :: .int ste :: .int sma :: .int sde :: .int sli :: .ref mop :: .int sod :: .ref mst :: .int sto :: .ref mwd :: .ref msd :: .int sx_ :: .ref mws :: .int sun :: .ref mfr :: .ref mqu :: .ref miw :: .int sfi :: .int swa :: .long sdx :: .ref mim :: .ref mix :: .ref mmd :: []))), (msd, .inl ((cs 0), 133, .inl gsd))]) hP [0, 1] rfl
          refine cl_V (W.runV (As := [.int v_36]) (rest := [.int x_292]) ⟨hx, hb, hml, hown, hts⟩ (c_M_timeE l D cs m0 mtp sta sru msg mln mcl mcs mrd snx swr snu ste sma sde sli mop sod mst sto mwd msd sx_ mws sun mfr mqu miw sfi swa sdx mim mix mmd gsd v_36 hsi r_271 ((bl_pos hsi r_274.2.1 c_275).1)) ⟨callB_of 1 hts (gd_C qq_7_140) rfl rfl rfl (hT _ qq_1_9) (hT _ qq_7_137) (by decide +kernel) (rm_R rfl rfl), (hT _ qq_7_139), (hT _ qs_6_0)⟩ (pq_V hPc hK hN (ci := 10) (q0 := 0) rfl rfl) rfl rfl hl.1 rfl (lv_room (Nat.le_of_ble_eq_true rfl)) dX12_stepFrom_47 ⟨Nat.le_of_ble_eq_true rfl, Nat.le_of_ble_eq_true rfl⟩) ?_
          refine lv_topi (fun x_295 e_296 => ?_)
          have r_297 : Rg 1 40 x_295 := Rg.of e_296 (tm_rg (hsi) (bl_pos hsi r_274.2.1 c_275).1 (cN_lt (n := 72) r_271 (by decide)))
          refine lv_iadd hx hb dX12_stepFrom_50 ?_
          refine lv_topi (fun x_298 e_299 => ?_)
          have r_300 : Rg 0 6619176 x_298 := Rg.add e_299 r_294 r_297 (by decide)
          refine lv_aload_n hx hb dX12_stepFrom_51 rfl (lv_at hl 2 rfl) ?_
          refine va_get (D := D) (ci := 10) (v := .ref mfr) (C := "WrongHoleModel") (T := TX12) (N := 33) hx hb hts (iq_RX12 _) hown hK hP 0 rfl rfl 24 (by decide) (hT _ qq_5_176) (fun _ h9 => h9) rfl dX12_stepFrom_52 ?_
          refine lv_iload_n hx hb dX12_stepFrom_55 rfl (lv_at hl 3 rfl) ?_
          have hi_301 : vp_in a 65536 := Rg.in hbk.1 (by decide)
          refine va_iald hx hb hK hP 2 0 rfl rfl hi_301 dX12_stepFrom_56 ?_
          refine lv_topi (fun x_302 e_303 => ?_)
          have r_304 : Rg (-1) 6619136 x_302 := Rg.of e_303 (hfa.rg hbk.1 (by decide))
          refine lv_icmp_ne (tgt := 62) hx hb dX12_stepFrom_57 (by decide) (fun c_305 => ?_) (fun c_305 => ?_)
          · obtain ⟨x_308, e_309⟩ : ∃ z : Int32, z = v_36 + Int32.ofInt 1 := ⟨_, rfl⟩
            have r_310 : Rg 1 72 x_308 := Rg.add e_309 r_271 (Rg.c (c := Int32.ofInt 1) (k := 1) rfl) (by decide)
            refine lv_iinc (v := x_308) (lv' := [(2, .int x_308), (3, .int x_272), (0, .ref m0), (1, .int a)]) hx hb dX12_stepFrom_62 hl (k := 1) rfl (e_309.symm) (by decide) rfl (fun ls hl => ?_)
            refine lv_goto (tgt := 13) hx hb dX12_stepFrom_65 (by decide) ?_
            exact ih_267 x_308 _ _ _ ⟨(Rg.wk (lo2 := 0) (hi2 := 72) r_310 (by decide)), hHe, hlc, hP, lv_sub hl [0, 2, 3] rfl⟩ (ms_up e_309 r_271 (Rg.c (c := Int32.ofInt 1) (k := 1) rfl) (by decide))
          · have r_306 : Rg 0 6619136 x_298 := Rg.eq_l c_305 r_300 r_304 (by decide)
            have r_307 : Rg 0 6619136 x_302 := Rg.eq_l (Eq.symm c_305) r_304 r_300 (by decide)
            refine lv_iload_n hx hb dX12_stepFrom_60 rfl (lv_at hl 1 rfl) ?_
            exact W.iret (v := v_36) hx hb hr (fun t9 ht9 hW9 => ⟨⟨_, rfl, _, rfl, ⟨(Rg.wk (lo2 := (-1)) (hi2 := 71) r_271 (by decide)), st_of r_271 r_274.2.1 c_275 (show x_282 = gfr (cN x_272) from e_283) c_285 e_296 (show x_292 = gfr (cN x_272) from e_293) e_299 x_302 (show x_302 = gfr (cN a) from e_303) c_305⟩⟩, ht9.trans hHe⟩) (fun _ h9 => by rw [hlc] at h9; exact absurd h9 List.not_mem_nil) dX12_stepFrom_61
  · have r_7 : Rg (-1) 0 x_2 := Rg.le_l (nlt_le c_5) r_4 (Rg.c (c := 0) (k := 0) rfl) (by decide)
    refine lv_iconst (v := (-1)) hx hb dX12_stepFrom_9 (by decide) ?_
    exact W.iret (v := (-1)) hx hb hr (fun t9 ht9 hW9 => ⟨⟨_, rfl, _, rfl, ⟨⟨by decide, by decide⟩, st_no⟩⟩, ht9.trans hHe⟩) (fun _ h9 => by rw [hlc] at h9; exact absurd h9 List.not_mem_nil) dX12_stepFrom_10
