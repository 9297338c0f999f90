set_option maxHeartbeats 4000000 in
set_option maxRecDepth 100000 in
theorem c_M_in_y (l : Launch) (D : va_G) (cs : Nat → ClassId) (y1 : Int64) (y2 : Int64) (y3 : Int64)  : Met l yX12_in (Cond.code yX12_in cX12_in 6 (some .boolean) :: TB) (RM 0 0 0) (va_Pc [.long y1, .long y2, .long y3] (PRR D cs [])) (QP (fun v => ∃ x : Int32, v = .int x ∧ Rg 0 1 x ∧ (¬ x = 0 → Int64.toInt y2 ≤ Int64.toInt y1 ∧ Int64.toInt y1 ≤ Int64.toInt y3) ∧ (Int64.toInt y2 ≤ Int64.toInt y1 ∧ Int64.toInt y1 ≤ Int64.toInt y3 → ¬ x = 0))) 0 0 (fun _ => False) := by
  refine MER (y := yX12_in) (cc := cX12_in) (maxL := 6) (ret := (some .boolean)) (d := 0) (D := D) (cs := cs) (ws := []) (av := [.long y1, .long y2, .long y3]) (Qc := QP (fun v => ∃ x : Int32, v = .int x ∧ Rg 0 1 x ∧ (¬ x = 0 → Int64.toInt y2 ≤ Int64.toInt y1 ∧ Int64.toInt y1 ≤ Int64.toInt y3) ∧ (Int64.toInt y2 ≤ Int64.toInt y1 ∧ Int64.toInt y1 ≤ Int64.toInt y3 → ¬ x = 0))) (by decide) (Nat.le_of_ble_eq_true rfl) ?_
  intro p e s m below meth c ls H hHe hx hb hr hml hown hts hlocks hP hK hN hl
  obtain ⟨locs, hlc⟩ : ∃ z : List Loc, z = [] := ⟨_, rfl⟩
  rw [← hlc]
  have hown : s.vm.findClass "WrongHoleModel" = some m.cls := hown
  have hT : ∀ w ∈ TB, w.before ([.long y1, .long y2, .long y3] : List Value).toArray s = true := fun w h => hts w (List.mem_cons_of_mem _ h)
  have hl : lv_has ls 6 [(0, .long y1), (2, .long y2), (4, .long y3)] := hl
  have hP : va_P D vwCl [] H := hP
  refine lv_lload_n hx hb dX12_in_0 rfl (lv_at hl 0 rfl) ?_
  refine lv_lload_n hx hb dX12_in_1 rfl (lv_at hl 1 rfl) ?_
  refine W.lcmp hx hb dX12_in_2 ?_
  refine lv_topi (fun x_1 e_2 => ?_)
  have r_3 : Rg (-1) 1 x_1 := Rg.of e_2 (cmp_r _ _)
  refine lv_if_lt (tgt := 17) hx hb dX12_in_3 (by decide) (fun c_4 => ?_) (fun c_4 => ?_)
  · have r_5 : Rg (-1) (-1) x_1 := Rg.lt_l c_4 r_3 (Rg.c (c := 0) (k := 0) rfl) (by decide)
    refine lv_iconst (v := 0) hx hb dX12_in_17 (by decide) ?_
    exact W.zret (v := 0) (ty := .boolean) hx hb hr rfl (fun t9 ht9 hW9 => ⟨⟨_, rfl, _, rfl, ⟨⟨by decide, by decide⟩, fun q9 => absurd rfl q9, fun h9 => absurd h9.1 (by have h8 := lc_lt e_2 c_4; omega)⟩⟩, ht9.trans hHe⟩) (fun _ h9 => by rw [hlc] at h9; exact absurd h9 List.not_mem_nil) dX12_in_18
  · have r_6 : Rg 0 1 x_1 := Rg.le_r (nlt_le c_4) (Rg.c (c := 0) (k := 0) rfl) r_3 (by decide)
    refine lv_lload_n hx hb dX12_in_6 rfl (lv_at hl 0 rfl) ?_
    refine lv_lload hx hb dX12_in_7 (lv_at hl 2 rfl) ?_
    refine W.lcmp hx hb dX12_in_9 ?_
    refine lv_topi (fun x_13 e_14 => ?_)
    have r_15 : Rg (-1) 1 x_13 := Rg.of e_14 (cmp_r _ _)
    refine lv_if_gt (tgt := 17) hx hb dX12_in_10 (by decide) (fun c_16 => ?_) (fun c_16 => ?_)
    · have r_17 : Rg 1 1 x_13 := Rg.lt_r c_16 (Rg.c (c := 0) (k := 0) rfl) r_15 (by decide)
      refine lv_iconst (v := 0) hx hb dX12_in_17 (by decide) ?_
      exact W.zret (v := 0) (ty := .boolean) hx hb hr rfl (fun t9 ht9 hW9 => ⟨⟨_, rfl, _, rfl, ⟨⟨by decide, by decide⟩, fun q9 => absurd rfl q9, fun h9 => absurd h9.2 (by have h8 := lc_gt e_14 c_16; omega)⟩⟩, ht9.trans hHe⟩) (fun _ h9 => by rw [hlc] at h9; exact absurd h9 List.not_mem_nil) dX12_in_18
    · have r_18 : Rg (-1) 0 x_13 := Rg.le_l (nlt_le c_16) r_15 (Rg.c (c := 0) (k := 0) rfl) (by decide)
      refine lv_iconst (v := 1) hx hb dX12_in_13 (by decide) ?_
      refine lv_goto (tgt := 18) hx hb dX12_in_14 (by decide) ?_
      exact W.zret (v := 1) (ty := .boolean) hx hb hr rfl (fun t9 ht9 hW9 => ⟨⟨_, rfl, _, rfl, ⟨⟨by decide, by decide⟩, fun _ => ⟨lc_ge e_2 c_4, lc_le e_14 c_16⟩, fun _ => by decide⟩⟩, ht9.trans hHe⟩) (fun _ h9 => by rw [hlc] at h9; exact absurd h9 List.not_mem_nil) dX12_in_18
set_option maxHeartbeats 4000000 in
set_option maxRecDepth 100000 in
theorem c_M_seat_y (l : Launch) (D : va_G) (cs : Nat → ClassId) (X : XX) (sz : Nat) (m0 : Nat) (mtp : Nat) (sta : Int32) (sru : Int32) (msg : Nat) (mln : Nat) (mcl : Nat) (mcs : Nat) (mrd : Nat) (snx : Int32) (swr : Int32) (snu : Int32) (ste : Int32) (sma : Int32) (sde : Int32) (sli : Int32) (mop : Nat) (sod : Int32) (mst : Nat) (sto : Int32) (mwd : Nat) (msd : Nat) (sx_ : Int32) (mws : Nat) (sun : Int32) (mfr : Nat) (mqu : Nat) (miw : Nat) (sfi : Int32) (swa : Int32) (sdx : Int64) (mim : Nat) (mix : Nat) (mmd : Nat) (gsd : Nat → Int32) (a : Int32) (b : Int32) (hsi : SI gsd) : Met l yX12_seat (Cond.code yX12_seat cX12_seat 5 (some .int) :: TB) (RM 1 0 0) (va_Pc [.ref m0, .int a, .int b] (PRE D cs X [(m0, .inr (10, (.ref mtp :: .int sta :: .int sru :: .ref msg :: .ref mln :: .ref mcl :: .ref mcs :: .ref mrd :: .int snx :: .int swr :: .int snu :: .int ste :: .int sma :: .int sde :: .int sli :: .ref mop :: .int sod :: .ref mst :: .int sto :: .ref mwd :: .ref msd :: .int sx_ :: .ref mws :: .int sun :: .ref mfr :: .ref mqu :: .ref miw :: .int sfi :: .int swa :: .long sdx :: .ref mim :: .ref mix :: .ref mmd :: []))), (msd, .inl ((cs 0), 133, .inl gsd))] [] sz)) (va_Qi (S := Unit) (fun r _ => (STG a b → r = gsd (92 + cN a)) ∧ (¬ STG a b → r = -2)) (fun _ t => ∃ (gsd2 : Nat → Int32), (SI gsd2) ∧ (gsd2 0 = gsd 0) ∧ ((STG a b → ∀ j, j < 10 → gsd2 (92 + j) = STF (fun k => gsd (92 + k)) (cN a) b j) ∧ (¬ STG a b → gsd2 = gsd)) ∧ va_P D vwCl [(m0, .inr (10, (.ref mtp :: .int sta :: .int sru :: .ref msg :: .ref mln :: .ref mcl :: .ref mcs :: .ref mrd :: .int snx :: .int swr :: .int snu :: .int ste :: .int sma :: .int sde :: .int sli :: .ref mop :: .int sod :: .ref mst :: .int sto :: .ref mwd :: .ref msd :: .int sx_ :: .ref mws :: .int sun :: .ref mfr :: .ref mqu :: .ref miw :: .int sfi :: .int swa :: .long sdx :: .ref mim :: .ref mix :: .ref mmd :: []))), (msd, .inl ((cs 0), 133, .inl gsd2))] t.heap ∧ va_D (va_A [(m0, .inr (10, (.ref mtp :: .int sta :: .int sru :: .ref msg :: .ref mln :: .ref mcl :: .ref mcs :: .ref mrd :: .int snx :: .int swr :: .int snu :: .int ste :: .int sma :: .int sde :: .int sli :: .ref mop :: .int sod :: .ref mst :: .int sto :: .ref mwd :: .ref msd :: .int sx_ :: .ref mws :: .int sun :: .ref mfr :: .ref mqu :: .ref miw :: .int sfi :: .int swa :: .long sdx :: .ref mim :: .ref mix :: .ref mmd :: []))), (msd, .inl ((cs 0), 133, .inl gsd))] sz) [(m0, .inr (10, (.ref mtp :: .int sta :: .int sru :: .ref msg :: .ref mln :: .ref mcl :: .ref mcs :: .ref mrd :: .int snx :: .int swr :: .int snu :: .int ste :: .int sma :: .int sde :: .int sli :: .ref mop :: .int sod :: .ref mst :: .int sto :: .ref mwd :: .ref msd :: .int sx_ :: .ref mws :: .int sun :: .ref mfr :: .ref mqu :: .ref miw :: .int sfi :: .int swa :: .long sdx :: .ref mim :: .ref mix :: .ref mmd :: []))), (msd, .inl ((cs 0), 133, .inl gsd2))]) (va_A [(m0, .inr (10, (.ref mtp :: .int sta :: .int sru :: .ref msg :: .ref mln :: .ref mcl :: .ref mcs :: .ref mrd :: .int snx :: .int swr :: .int snu :: .int ste :: .int sma :: .int sde :: .int sli :: .ref mop :: .int sod :: .ref mst :: .int sto :: .ref mwd :: .ref msd :: .int sx_ :: .ref mws :: .int sun :: .ref mfr :: .ref mqu :: .ref miw :: .int sfi :: .int swa :: .long sdx :: .ref mim :: .ref mix :: .ref mmd :: []))), (msd, .inl ((cs 0), 133, .inl gsd))] sz)) 0 0 (va_A [(m0, .inr (10, (.ref mtp :: .int sta :: .int sru :: .ref msg :: .ref mln :: .ref mcl :: .ref mcs :: .ref mrd :: .int snx :: .int swr :: .int snu :: .int ste :: .int sma :: .int sde :: .int sli :: .ref mop :: .int sod :: .ref mst :: .int sto :: .ref mwd :: .ref msd :: .int sx_ :: .ref mws :: .int sun :: .ref mfr :: .ref mqu :: .ref miw :: .int sfi :: .int swa :: .long sdx :: .ref mim :: .ref mix :: .ref mmd :: []))), (msd, .inl ((cs 0), 133, .inl gsd))] sz) := by
  refine MET (y := yX12_seat) (cc := cX12_seat) (maxL := 5) (ret := (some .int)) (d := 1) (mc := 0) (ms := 0) (D := D) (cs := cs) (X := X) (ws := [(m0, .inr (10, (.ref mtp :: .int sta :: .int sru :: .ref msg :: .ref mln :: .ref mcl :: .ref mcs :: .ref mrd :: .int snx :: .int swr :: .int snu :: .int ste :: .int sma :: .int sde :: .int sli :: .ref mop :: .int sod :: .ref mst :: .int sto :: .ref mwd :: .ref msd :: .int sx_ :: .ref mws :: .int sun :: .ref mfr :: .ref mqu :: .ref miw :: .int sfi :: .int swa :: .long sdx :: .ref mim :: .ref mix :: .ref mmd :: []))), (msd, .inl ((cs 0), 133, .inl gsd))]) (wo := []) (sz := sz) (av := [.ref m0, .int a, .int b]) (Qc := fun A => va_Qi (S := Unit) (fun r _ => (STG a b → r = gsd (92 + cN a)) ∧ (¬ STG a b → r = -2)) (fun _ t => ∃ (gsd2 : Nat → Int32), (SI gsd2) ∧ (gsd2 0 = gsd 0) ∧ ((STG a b → ∀ j, j < 10 → gsd2 (92 + j) = STF (fun k => gsd (92 + k)) (cN a) b j) ∧ (¬ STG a b → gsd2 = gsd)) ∧ va_P D vwCl [(m0, .inr (10, (.ref mtp :: .int sta :: .int sru :: .ref msg :: .ref mln :: .ref mcl :: .ref mcs :: .ref mrd :: .int snx :: .int swr :: .int snu :: .int ste :: .int sma :: .int sde :: .int sli :: .ref mop :: .int sod :: .ref mst :: .int sto :: .ref mwd :: .ref msd :: .int sx_ :: .ref mws :: .int sun :: .ref mfr :: .ref mqu :: .ref miw :: .int sfi :: .int swa :: .long sdx :: .ref mim :: .ref mix :: .ref mmd :: []))), (msd, .inl ((cs 0), 133, .inl gsd2))] t.heap ∧ va_D A [(m0, .inr (10, (.ref mtp :: .int sta :: .int sru :: .ref msg :: .ref mln :: .ref mcl :: .ref mcs :: .ref mrd :: .int snx :: .int swr :: .int snu :: .int ste :: .int sma :: .int sde :: .int sli :: .ref mop :: .int sod :: .ref mst :: .int sto :: .ref mwd :: .ref msd :: .int sx_ :: .ref mws :: .int sun :: .ref mfr :: .ref mqu :: .ref miw :: .int sfi :: .int swa :: .long sdx :: .ref mim :: .ref mix :: .ref mmd :: []))), (msd, .inl ((cs 0), 133, .inl gsd2))]) A) (by decide) (Nat.le_of_ble_eq_true rfl) ?_
  intro p e s m below meth c ls A H hHe hx hb hr hml hown hts hlocks hnm hP hK hD hA hS hN hR hX hXs hl
  have hD : va_D A [(m0, .inr (10, (.ref mtp :: .int sta :: .int sru :: .ref msg :: .ref mln :: .ref mcl :: .ref mcs :: .ref mrd :: .int snx :: .int swr :: .int snu :: .int ste :: .int sma :: .int sde :: .int sli :: .ref mop :: .int sod :: .ref mst :: .int sto :: .ref mwd :: .ref msd :: .int sx_ :: .ref mws :: .int sun :: .ref mfr :: .ref mqu :: .ref miw :: .int sfi :: .int swa :: .long sdx :: .ref mim :: .ref mix :: .ref mmd :: []))), (msd, .inl ((cs 0), 133, .inl gsd))] := hD
  obtain ⟨locs, hlc⟩ : ∃ z : List Loc, z = [] := ⟨_, rfl⟩
  rw [← hlc] at hS ⊢
  have hown : s.vm.findClass "WrongHoleModel" = some m.cls := hown
  have hT : ∀ w ∈ TB, w.before ([.ref m0, .int a, .int b] : List Value).toArray s = true := fun w h => hts w (List.mem_cons_of_mem _ h)
  have hl : lv_has ls 5 [(0, .ref m0), (1, .int a), (2, .int b)] := hl
  have hP : va_P D vwCl [(m0, .inr (10, (.ref mtp :: .int sta :: .int sru :: .ref msg :: .ref mln :: .ref mcl :: .ref mcs :: .ref mrd :: .int snx :: .int swr :: .int snu :: .int ste :: .int sma :: .int sde :: .int sli :: .ref mop :: .int sod :: .ref mst :: .int sto :: .ref mwd :: .ref msd :: .int sx_ :: .ref mws :: .int sun :: .ref mfr :: .ref mqu :: .ref miw :: .int sfi :: .int swa :: .long sdx :: .ref mim :: .ref mix :: .ref mmd :: []))), (msd, .inl ((cs 0), 133, .inl gsd))] H := hP
  refine lv_iload_n hx hb dX12_seat_0 rfl (lv_at hl 1 rfl) ?_
  refine lv_i2l (v := Int32.toInt64 a) hx hb dX12_seat_1 rfl ?_
  refine lv_topl (fun x_1 e_2 => ?_)
  refine lv_lconst (v := 0) hx hb dX12_seat_2 (by decide) ?_
  refine lv_ldc2 (v := 9) hx hb hown (hT _ qq_8_36) dX12_seat_3 ?_
  have hPc := va_P.sub (ws' := []) hP [] rfl
  refine cl_P (W.runS (As := [.long x_1, .long 0, .long 9]) (rest := []) ⟨hx, hb, hml, hown, hts⟩ (c_M_in_y l D cs x_1 0 9) ⟨callB_of 3 hts (gd_C qq_6_97) rfl rfl rfl (hT _ qq_1_9) (hT _ qq_6_95) (by decide +kernel) (rm_R rfl rfl), (hT _ qq_6_96)⟩ (pq_S hPc hK hN) rfl rfl hl.1 rfl (lv_room (Nat.le_of_ble_eq_true rfl)) dX12_seat_6 ⟨Nat.le_of_ble_eq_true rfl, Nat.le_of_ble_eq_true rfl⟩) (fun v9 hz_4 => ?_)
  obtain ⟨x_3, rfl, r_5⟩ := hz_4
  refine lv_if_eq (tgt := 26) hx hb dX12_seat_9 (by decide) (fun c_6 => ?_) (fun c_6 => ?_)
  · have r_7 : Rg 0 0 x_3 := Rg.eq_l c_6 r_5.1 (Rg.c (c := 0) (k := 0) rfl) (by decide)
    refine lv_bipush (v := (-2)) hx hb dX12_seat_26 (by decide) ?_
    refine W.widen (k := 0) (n := 0) (Nat.le_of_ble_eq_true rfl) (Nat.le_of_ble_eq_true rfl) ?_
    have hP9 := hP.sub (ws' := [(m0, .inr (10, (.ref mtp :: .int sta :: .int sru :: .ref msg :: .ref mln :: .ref mcl :: .ref mcs :: .ref mrd :: .int snx :: .int swr :: .int snu :: .int ste :: .int sma :: .int sde :: .int sli :: .ref mop :: .int sod :: .ref mst :: .int sto :: .ref mwd :: .ref msd :: .int sx_ :: .ref mws :: .int sun :: .ref mfr :: .ref mqu :: .ref miw :: .int sfi :: .int swa :: .long sdx :: .ref mim :: .ref mix :: .ref mmd :: []))), (msd, .inl ((cs 0), 133, .inl gsd))]) [0, 1] rfl
    have hD9 := hD.sub (ws' := [(m0, .inr (10, (.ref mtp :: .int sta :: .int sru :: .ref msg :: .ref mln :: .ref mcl :: .ref mcs :: .ref mrd :: .int snx :: .int swr :: .int snu :: .int ste :: .int sma :: .int sde :: .int sli :: .ref mop :: .int sod :: .ref mst :: .int sto :: .ref mwd :: .ref msd :: .int sx_ :: .ref mws :: .int sun :: .ref mfr :: .ref mqu :: .ref miw :: .int sfi :: .int swa :: .long sdx :: .ref mim :: .ref mix :: .ref mmd :: []))), (msd, .inl ((cs 0), 133, .inl gsd))]) [0, 1] (by decide) rfl
    exact W.iret (v := (-2)) hx hb hr (fun t9 ht9 hW9 => ⟨⟨_, (), rfl, ⟨fun h9 => absurd h9 (fun h9 => r_5.2.2 (in_yes e_2 h9.1 rfl rfl) c_6), fun _ => rfl⟩, ⟨gsd, hsi, rfl, ⟨fun h9 => absurd h9 (fun h9 => r_5.2.2 (in_yes e_2 h9.1 rfl rfl) c_6), fun _ => rfl⟩, by rw [ht9]; exact hP9, hD9⟩⟩, hS.F ht9⟩) hS.2.2 dX12_seat_28
  · have r_8 : Rg 1 1 x_3 := Rg.ne c_6 r_5.1 (Rg.c (c := 0) (k := 0) rfl) (by decide)
    have r_9 : Rg 0 9 a := in_rg e_2 ((inY r_5).2 c_6) (by decide) (by decide)
    refine lv_iload_n hx hb dX12_seat_12 rfl (lv_at hl 2 rfl) ?_
    refine lv_i2l (v := Int32.toInt64 b) hx hb dX12_seat_13 rfl ?_
    refine lv_topl (fun x_10 e_11 => ?_)
    refine lv_ldc2 (v := (-1)) hx hb hown (hT _ qq_8_64) dX12_seat_14 ?_
    refine lv_ldc2 (v := 9) hx hb hown (hT _ qq_8_36) dX12_seat_17 ?_
    have hPc := va_P.sub (ws' := []) hP [] rfl
    refine cl_P (W.runS (As := [.long x_10, .long (-1), .long 9]) (rest := []) ⟨hx, hb, hml, hown, hts⟩ (c_M_in_y l D cs x_10 (-1) 9) ⟨callB_of 3 hts (gd_C qq_6_97) rfl rfl rfl (hT _ qq_1_9) (hT _ qq_6_95) (by decide +kernel) (rm_R rfl rfl), (hT _ qq_6_96)⟩ (pq_S hPc hK hN) rfl rfl hl.1 rfl (lv_room (Nat.le_of_ble_eq_true rfl)) dX12_seat_20 ⟨Nat.le_of_ble_eq_true rfl, Nat.le_of_ble_eq_true rfl⟩) (fun v9 hz_13 => ?_)
    obtain ⟨x_12, rfl, r_14⟩ := hz_13
    refine lv_if_ne (tgt := 29) hx hb dX12_seat_23 (by decide) (fun c_15 => ?_) (fun c_15 => ?_)
    · have r_16 : Rg 1 1 x_12 := Rg.ne c_15 r_14.1 (Rg.c (c := 0) (k := 0) rfl) (by decide)
      have r_17 : Rg (-1) 9 b := in_rg e_11 ((inY r_14).2 c_15) (by decide) (by decide)
      refine lv_aload_n hx hb dX12_seat_29 rfl (lv_at hl 0 rfl) ?_
      refine va_get (D := D) (ci := 10) (v := .ref msd) (C := "WrongHoleModel") (T := TX12) (N := 33) hx hb hts (iq_RX12 _) hown hK hP 0 rfl rfl 20 (by decide) (hT _ qq_5_172) (fun _ h9 => h9) rfl dX12_seat_30 ?_
      refine lv_bipush (v := 92) hx hb dX12_seat_33 (by decide) ?_
      refine lv_iload_n hx hb dX12_seat_35 rfl (lv_at hl 1 rfl) ?_
      refine lv_iadd hx hb dX12_seat_36 ?_
      refine lv_topi (fun x_19 e_20 => ?_)
      have r_21 : Rg 92 101 x_19 := Rg.add e_20 (Rg.c (c := 92) (k := 92) rfl) r_9 (by decide)
      have hi_22 : vp_in x_19 133 := Rg.in r_21 (by decide)
      refine va_iald hx hb hK hP 1 0 rfl rfl hi_22 dX12_seat_37 ?_
      refine lv_topi (fun x_23 e_24 => ?_)
      refine lv_istore_n (lv' := [(3, .int x_23), (0, .ref m0), (1, .int a), (2, .int b)]) hx hb dX12_seat_38 rfl hl (by decide) rfl (fun ls hl => ?_)
      refine lv_iconst (v := 0) hx hb dX12_seat_39 (by decide) ?_
      refine lv_istore (lv' := [(4, .int 0), (3, .int x_23), (0, .ref m0), (1, .int a), (2, .int b)]) hx hb dX12_seat_40 hl (by decide) rfl (fun ls hl => ?_)
      refine w_wh (σ := (Int32) × (Nat → Int32)) (fun x9 H locs ls => match x9 with | (v_42, g_43) => Rg 0 10 v_42 ∧ (SI g_43 ∧ g_43 0 = gsd 0 ∧ (0 ≤ Int32.toInt b → ∀ j, j < cN v_42 → g_43 (92 + j) ≠ b)) ∧ (SEQ gsd g_43 b (cN v_42)) ∧ va_P D vwCl [(m0, .inr (10, (.ref mtp :: .int sta :: .int sru :: .ref msg :: .ref mln :: .ref mcl :: .ref mcs :: .ref mrd :: .int snx :: .int swr :: .int snu :: .int ste :: .int sma :: .int sde :: .int sli :: .ref mop :: .int sod :: .ref mst :: .int sto :: .ref mwd :: .ref msd :: .int sx_ :: .ref mws :: .int sun :: .ref mfr :: .ref mqu :: .ref miw :: .int sfi :: .int swa :: .long sdx :: .ref mim :: .ref mix :: .ref mmd :: []))), (msd, .inl ((cs 0), 133, .inl g_43))] H ∧ va_D A [(m0, .inr (10, (.ref mtp :: .int sta :: .int sru :: .ref msg :: .ref mln :: .ref mcl :: .ref mcs :: .ref mrd :: .int snx :: .int swr :: .int snu :: .int ste :: .int sma :: .int sde :: .int sli :: .ref mop :: .int sod :: .ref mst :: .int sto :: .ref mwd :: .ref msd :: .int sx_ :: .ref mws :: .int sun :: .ref mfr :: .ref mqu :: .ref miw :: .int sfi :: .int swa :: .long sdx :: .ref mim :: .ref mix :: .ref mmd :: []))), (msd, .inl ((cs 0), 133, .inl g_43))] ∧ va_S A s.heap H locs ∧ lv_has ls 5 [(4, .int v_42), (3, .int x_23), (0, .ref m0), (1, .int a), (2, .int b)]) (fun x9 => match x9 with | (v_42, g_43) => (10 - Int32.toInt v_42).toNat) 42 ?_ (0, gsd) H locs ls ⟨(Rg.wk (lo2 := 0) (hi2 := 10) (Rg.c (c := 0) (k := 0) rfl) (by decide)), ⟨hsi, rfl, fun _ j hj => absurd hj (Nat.not_lt_zero j)⟩, SEQ.nil, hP, hD, hS, lv_sub hl [0, 1, 2, 3, 4] rfl⟩
      rintro ⟨v_42, g_43⟩ H locs ls ⟨r_389, iv_390, iv_391, hP, hD, hS, hl⟩ ih_388
      refine lv_iload hx hb dX12_seat_42 (lv_at hl 0 rfl) ?_
      refine lv_bipush (v := 10) hx hb dX12_seat_44 (by decide) ?_
      refine lv_icmp_ge (tgt := 84) hx hb dX12_seat_46 (by decide) (fun c_392 => ?_) (fun c_392 => ?_)
      · have r_393 : Rg 10 10 v_42 := Rg.le_r c_392 (Rg.c (c := 10) (k := 10) rfl) r_389 (by decide)
        refine lv_aload_n hx hb dX12_seat_84 rfl (lv_at hl 2 rfl) ?_
        refine va_get (D := D) (ci := 10) (v := .ref msd) (C := "WrongHoleModel") (T := TX12) (N := 33) hx hb hts (iq_RX12 _) hown hK hP 0 rfl rfl 20 (by decide) (hT _ qq_5_172) (fun _ h9 => h9) rfl dX12_seat_85 ?_
        refine lv_bipush (v := 92) hx hb dX12_seat_88 (by decide) ?_
        refine lv_iload_n hx hb dX12_seat_90 rfl (lv_at hl 3 rfl) ?_
        refine lv_iadd hx hb dX12_seat_91 ?_
        refine lv_topi (fun x_426 e_427 => ?_)
        have r_428 : Rg 92 101 x_426 := Rg.add e_427 (Rg.c (c := 92) (k := 92) rfl) r_9 (by decide)
        refine lv_iload_n hx hb dX12_seat_92 rfl (lv_at hl 4 rfl) ?_
        have hi_429 : vp_in x_426 133 := Rg.in r_428 (by decide)
        refine va_iast hx hb hK hP hD hS 1 0 rfl rfl hi_429 dX12_seat_93 (fun H locs hP hD hS => ?_)
        obtain ⟨g_430, rb_431, hP, hD⟩ : ∃ g_430 : Nat → Int32, (SI g_430 ∧ (g_430 0 = gsd 0) ∧ ∀ j, j < 10 → g_430 (92 + j) = STF (fun k => gsd (92 + k)) (cN a) b j) ∧ va_P D vwCl [(m0, .inr (10, (.ref mtp :: .int sta :: .int sru :: .ref msg :: .ref mln :: .ref mcl :: .ref mcs :: .ref mrd :: .int snx :: .int swr :: .int snu :: .int ste :: .int sma :: .int sde :: .int sli :: .ref mop :: .int sod :: .ref mst :: .int sto :: .ref mwd :: .ref msd :: .int sx_ :: .ref mws :: .int sun :: .ref mfr :: .ref mqu :: .ref miw :: .int sfi :: .int swa :: .long sdx :: .ref mim :: .ref mix :: .ref mmd :: []))), (msd, .inl ((cs 0), 133, .inl g_430))] H ∧ va_D A [(m0, .inr (10, (.ref mtp :: .int sta :: .int sru :: .ref msg :: .ref mln :: .ref mcl :: .ref mcs :: .ref mrd :: .int snx :: .int swr :: .int snu :: .int ste :: .int sma :: .int sde :: .int sli :: .ref mop :: .int sod :: .ref mst :: .int sto :: .ref mwd :: .ref msd :: .int sx_ :: .ref mws :: .int sun :: .ref mfr :: .ref mqu :: .ref miw :: .int sfi :: .int swa :: .long sdx :: .ref mim :: .ref mix :: .ref mmd :: []))), (msd, .inl ((cs 0), 133, .inl g_430))] := ⟨_, and3 (se_e iv_390 (ix_add (k := 92) e_427 r_9 (by decide) ⟨by decide, rfl⟩) (cN_lt (n := 10) r_9 (by decide)) r_17 (le_cN c_392 (Rg.c (c := 10) (k := 10) rfl) r_393 (by decide))) (SEQ.e' iv_391 (le_cN c_392 (Rg.c (c := 10) (k := 10) rfl) r_393 (by decide)) (ix_add (k := 92) e_427 r_9 (by decide) ⟨by decide, rfl⟩)), hP, hD⟩
        refine lv_iload_n hx hb dX12_seat_94 rfl (lv_at hl 1 rfl) ?_
        refine W.widen (k := 0) (n := 0) (Nat.le_of_ble_eq_true rfl) (Nat.le_of_ble_eq_true rfl) ?_
        have hP9 := hP.sub (ws' := [(m0, .inr (10, (.ref mtp :: .int sta :: .int sru :: .ref msg :: .ref mln :: .ref mcl :: .ref mcs :: .ref mrd :: .int snx :: .int swr :: .int snu :: .int ste :: .int sma :: .int sde :: .int sli :: .ref mop :: .int sod :: .ref mst :: .int sto :: .ref mwd :: .ref msd :: .int sx_ :: .ref mws :: .int sun :: .ref mfr :: .ref mqu :: .ref miw :: .int sfi :: .int swa :: .long sdx :: .ref mim :: .ref mix :: .ref mmd :: []))), (msd, .inl ((cs 0), 133, .inl g_430))]) [0, 1] rfl
        have hD9 := hD.sub (ws' := [(m0, .inr (10, (.ref mtp :: .int sta :: .int sru :: .ref msg :: .ref mln :: .ref mcl :: .ref mcs :: .ref mrd :: .int snx :: .int swr :: .int snu :: .int ste :: .int sma :: .int sde :: .int sli :: .ref mop :: .int sod :: .ref mst :: .int sto :: .ref mwd :: .ref msd :: .int sx_ :: .ref mws :: .int sun :: .ref mfr :: .ref mqu :: .ref miw :: .int sfi :: .int swa :: .long sdx :: .ref mim :: .ref mix :: .ref mmd :: []))), (msd, .inl ((cs 0), 133, .inl g_430))]) [0, 1] (by decide) rfl
        exact W.iret (v := x_23) hx hb hr (fun t9 ht9 hW9 => ⟨⟨_, (), rfl, ⟨fun _ => (show x_23 = gsd (92 + cN a) from by rw [e_24, show Int32.toNatClampNeg x_19 = _ from (ix_add (k := 92) e_20 r_9 (by decide) ⟨by decide, rfl⟩)]), fun h9 => absurd (⟨r_9, r_17⟩ : STG a b) h9⟩, ⟨g_430, rb_431.1, rb_431.2.1, ⟨fun _ => rb_431.2.2, fun h9 => absurd (⟨r_9, r_17⟩ : STG a b) h9⟩, by rw [ht9]; exact hP9, hD9⟩⟩, hS.F ht9⟩) hS.2.2 dX12_seat_95
      · have r_394 : Rg 0 9 v_42 := Rg.lt_l (nle_lt c_392) r_389 (Rg.c (c := 10) (k := 10) rfl) (by decide)
        refine lv_iload_n hx hb dX12_seat_49 rfl (lv_at hl 4 rfl) ?_
        refine w_cut (σ := (Nat → Int32)) (fun (g_447 : Nat → Int32) H locs ls => (SI g_447 ∧ g_447 0 = gsd 0 ∧ (0 ≤ Int32.toInt b → ∀ j, j < cN v_42 + 1 → g_447 (92 + j) ≠ b)) ∧ (SEQ gsd g_447 b (cN v_42 + 1)) ∧ va_P D vwCl [(m0, .inr (10, (.ref mtp :: .int sta :: .int sru :: .ref msg :: .ref mln :: .ref mcl :: .ref mcs :: .ref mrd :: .int snx :: .int swr :: .int snu :: .int ste :: .int sma :: .int sde :: .int sli :: .ref mop :: .int sod :: .ref mst :: .int sto :: .ref mwd :: .ref msd :: .int sx_ :: .ref mws :: .int sun :: .ref mfr :: .ref mqu :: .ref miw :: .int sfi :: .int swa :: .long sdx :: .ref mim :: .ref mix :: .ref mmd :: []))), (msd, .inl ((cs 0), 133, .inl g_447))] H ∧ va_D A [(m0, .inr (10, (.ref mtp :: .int sta :: .int sru :: .ref msg :: .ref mln :: .ref mcl :: .ref mcs :: .ref mrd :: .int snx :: .int swr :: .int snu :: .int ste :: .int sma :: .int sde :: .int sli :: .ref mop :: .int sod :: .ref mst :: .int sto :: .ref mwd :: .ref msd :: .int sx_ :: .ref mws :: .int sun :: .ref mfr :: .ref mqu :: .ref miw :: .int sfi :: .int swa :: .long sdx :: .ref mim :: .ref mix :: .ref mmd :: []))), (msd, .inl ((cs 0), 133, .inl g_447))] ∧ va_S A s.heap H locs ∧ lv_has ls 5 [(4, .int v_42), (3, .int x_23), (0, .ref m0), (1, .int a), (2, .int b)]) 78 (fun (g_447 : Nat → Int32) => []) ?_ (fun hj_448 => ?_)
        · rintro g_447 H locs ls ⟨iv_449, iv_450, hP, hD, hS, hl⟩
          obtain ⟨x_451, e_452⟩ : ∃ z : Int32, z = v_42 + Int32.ofInt 1 := ⟨_, rfl⟩
          have r_453 : Rg 1 10 x_451 := Rg.add e_452 r_394 (Rg.c (c := Int32.ofInt 1) (k := 1) rfl) (by decide)
          refine lv_iinc (v := x_451) (lv' := [(4, .int x_451), (3, .int x_23), (0, .ref m0), (1, .int a), (2, .int b)]) hx hb dX12_seat_78 hl (k := 0) rfl (e_452.symm) (by decide) rfl (fun ls hl => ?_)
          refine lv_goto (tgt := 42) hx hb dX12_seat_81 (by decide) ?_
          exact ih_388 (x_451, g_447) _ _ _ ⟨(Rg.wk (lo2 := 0) (hi2 := 10) r_453 (by decide)), (by rw [(cN_add (k := 1) e_452 r_394 (Rg.c (c := Int32.ofInt 1) (k := 1) rfl) (by decide))]; exact iv_449), (by rw [(cN_add (k := 1) e_452 r_394 (Rg.c (c := Int32.ofInt 1) (k := 1) rfl) (by decide))]; exact iv_450), hP, hD, hS, lv_sub hl [0, 1, 2, 3, 4] rfl⟩ (ms_up e_452 r_394 (Rg.c (c := Int32.ofInt 1) (k := 1) rfl) (by decide))
        · refine lv_if_lt (tgt := 78) hx hb dX12_seat_50 (by decide) (fun c_432 => ?_) (fun c_432 => ?_)
          · have r_433 : Rg (-1) (-1) b := Rg.lt_l c_432 r_17 (Rg.c (c := 0) (k := 0) rfl) (by decide)
            exact hj_448 g_43 _ _ _ ⟨⟨iv_390.1, iv_390.2.1, fun h9 => absurd h9 (by have h8 := c_432; rw [i_lt] at h8; have h7 : Int32.toInt 0 = 0 := rfl; omega)⟩, (SEQ.n iv_391 (Or.inr (STG.bm (⟨r_9, (Rg.wk (lo2 := (-1)) (hi2 := 9) r_433 (by decide))⟩ : STG a b) c_432))), hP, hD, hS, lv_sub hl [0, 1, 2, 3, 4] rfl⟩
          · have r_434 : Rg 0 9 b := Rg.le_r (nlt_le c_432) (Rg.c (c := 0) (k := 0) rfl) r_17 (by decide)
            refine lv_aload_n hx hb dX12_seat_53 rfl (lv_at hl 2 rfl) ?_
            refine va_get (D := D) (ci := 10) (v := .ref msd) (C := "WrongHoleModel") (T := TX12) (N := 33) hx hb hts (iq_RX12 _) hown hK hP 0 rfl rfl 20 (by decide) (hT _ qq_5_172) (fun _ h9 => h9) rfl dX12_seat_54 ?_
            refine lv_bipush (v := 92) hx hb dX12_seat_57 (by decide) ?_
            refine lv_iload hx hb dX12_seat_59 (lv_at hl 0 rfl) ?_
            refine lv_iadd hx hb dX12_seat_61 ?_
            refine lv_topi (fun x_454 e_455 => ?_)
            have r_456 : Rg 92 101 x_454 := Rg.add e_455 (Rg.c (c := 92) (k := 92) rfl) r_394 (by decide)
            have hi_457 : vp_in x_454 133 := Rg.in r_456 (by decide)
            refine va_iald hx hb hK hP 1 0 rfl rfl hi_457 dX12_seat_62 ?_
            refine lv_topi (fun x_458 e_459 => ?_)
            refine lv_iload_n hx hb dX12_seat_63 rfl (lv_at hl 4 rfl) ?_
            refine lv_icmp_ne (tgt := 78) hx hb dX12_seat_64 (by decide) (fun c_460 => ?_) (fun c_460 => ?_)
            · exact hj_448 g_43 _ _ _ ⟨⟨iv_390.1, iv_390.2.1, fun h9 => se_n (iv_390.2.2 h9) (show x_458 = g_43 (92 + cN v_42) from by rw [e_459, show Int32.toNatClampNeg x_454 = _ from (ix_add (k := 92) e_455 r_394 (by decide) ⟨by decide, rfl⟩)]) c_460⟩, (SEQ.n iv_391 (Or.inl (fun h9 => c_460 (((show x_458 = g_43 (92 + cN v_42) from by rw [e_459, show Int32.toNatClampNeg x_454 = _ from (ix_add (k := 92) e_455 r_394 (by decide) ⟨by decide, rfl⟩)]).trans (iv_391.ld (cN_lt (n := 10) r_394 (by decide)))).trans h9)))), hP, hD, hS, lv_sub hl [0, 1, 2, 3, 4] rfl⟩
            · have r_461 : Rg 0 9 x_458 := Rg.eq_l c_460 (Rg.top x_458) r_434 (by decide)
              refine lv_aload_n hx hb dX12_seat_67 rfl (lv_at hl 2 rfl) ?_
              refine va_get (D := D) (ci := 10) (v := .ref msd) (C := "WrongHoleModel") (T := TX12) (N := 33) hx hb hts (iq_RX12 _) hown hK hP 0 rfl rfl 20 (by decide) (hT _ qq_5_172) (fun _ h9 => h9) rfl dX12_seat_68 ?_
              refine lv_bipush (v := 92) hx hb dX12_seat_71 (by decide) ?_
              refine lv_iload hx hb dX12_seat_73 (lv_at hl 0 rfl) ?_
              refine lv_iadd hx hb dX12_seat_75 ?_
              refine lv_topi (fun x_462 e_463 => ?_)
              have r_464 : Rg 92 101 x_462 := Rg.add e_463 (Rg.c (c := 92) (k := 92) rfl) r_394 (by decide)
              refine lv_iconst (v := (-1)) hx hb dX12_seat_76 (by decide) ?_
              have hi_465 : vp_in x_462 133 := Rg.in r_464 (by decide)
              refine va_iast hx hb hK hP hD hS 1 0 rfl rfl hi_465 dX12_seat_77 (fun H locs hP hD hS => ?_)
              obtain ⟨g_466, rb_467, hP, hD⟩ : ∃ g_466 : Nat → Int32, (SI g_466 ∧ (g_466 0 = gsd 0 ∧ (0 ≤ Int32.toInt b → ∀ j, j < cN v_42 + 1 → g_466 (92 + j) ≠ b)) ∧ SEQ gsd g_466 b (cN v_42 + 1)) ∧ va_P D vwCl [(m0, .inr (10, (.ref mtp :: .int sta :: .int sru :: .ref msg :: .ref mln :: .ref mcl :: .ref mcs :: .ref mrd :: .int snx :: .int swr :: .int snu :: .int ste :: .int sma :: .int sde :: .int sli :: .ref mop :: .int sod :: .ref mst :: .int sto :: .ref mwd :: .ref msd :: .int sx_ :: .ref mws :: .int sun :: .ref mfr :: .ref mqu :: .ref miw :: .int sfi :: .int swa :: .long sdx :: .ref mim :: .ref mix :: .ref mmd :: []))), (msd, .inl ((cs 0), 133, .inl g_466))] H ∧ va_D A [(m0, .inr (10, (.ref mtp :: .int sta :: .int sru :: .ref msg :: .ref mln :: .ref mcl :: .ref mcs :: .ref mrd :: .int snx :: .int swr :: .int snu :: .int ste :: .int sma :: .int sde :: .int sli :: .ref mop :: .int sod :: .ref mst :: .int sto :: .ref mwd :: .ref msd :: .int sx_ :: .ref mws :: .int sun :: .ref mfr :: .ref mqu :: .ref miw :: .int sfi :: .int swa :: .long sdx :: .ref mim :: .ref mix :: .ref mmd :: []))), (msd, .inl ((cs 0), 133, .inl g_466))] := ⟨_, and3 (se_s iv_390 (ix_add (k := 92) e_463 r_394 (by decide) ⟨by decide, rfl⟩) (cN_lt (n := 10) r_394 (by decide))) (SEQ.s' iv_391 (((show x_458 = g_43 (92 + cN v_42) from by rw [e_459, show Int32.toNatClampNeg x_454 = _ from (ix_add (k := 92) e_455 r_394 (by decide) ⟨by decide, rfl⟩)]).trans (iv_391.ld (cN_lt (n := 10) r_394 (by decide)))).symm.trans c_460) (ix_add (k := 92) e_463 r_394 (by decide) ⟨by decide, rfl⟩)), hP, hD⟩
              exact hj_448 g_466 _ _ _ ⟨⟨rb_467.1, rb_467.2.1⟩, rb_467.2.2, hP, hD, hS, lv_sub hl [0, 1, 2, 3, 4] rfl⟩
    · have r_18 : Rg 0 0 x_12 := Rg.eq_l c_15 r_14.1 (Rg.c (c := 0) (k := 0) rfl) (by decide)
      refine lv_bipush (v := (-2)) hx hb dX12_seat_26 (by decide) ?_
      refine W.widen (k := 0) (n := 0) (Nat.le_of_ble_eq_true rfl) (Nat.le_of_ble_eq_true rfl) ?_
      have hP9 := hP.sub (ws' := [(m0, .inr (10, (.ref mtp :: .int sta :: .int sru :: .ref msg :: .ref mln :: .ref mcl :: .ref mcs :: .ref mrd :: .int snx :: .int swr :: .int snu :: .int ste :: .int sma :: .int sde :: .int sli :: .ref mop :: .int sod :: .ref mst :: .int sto :: .ref mwd :: .ref msd :: .int sx_ :: .ref mws :: .int sun :: .ref mfr :: .ref mqu :: .ref miw :: .int sfi :: .int swa :: .long sdx :: .ref mim :: .ref mix :: .ref mmd :: []))), (msd, .inl ((cs 0), 133, .inl gsd))]) [0, 1] rfl
      have hD9 := hD.sub (ws' := [(m0, .inr (10, (.ref mtp :: .int sta :: .int sru :: .ref msg :: .ref mln :: .ref mcl :: .ref mcs :: .ref mrd :: .int snx :: .int swr :: .int snu :: .int ste :: .int sma :: .int sde :: .int sli :: .ref mop :: .int sod :: .ref mst :: .int sto :: .ref mwd :: .ref msd :: .int sx_ :: .ref mws :: .int sun :: .ref mfr :: .ref mqu :: .ref miw :: .int sfi :: .int swa :: .long sdx :: .ref mim :: .ref mix :: .ref mmd :: []))), (msd, .inl ((cs 0), 133, .inl gsd))]) [0, 1] (by decide) rfl
      exact W.iret (v := (-2)) hx hb hr (fun t9 ht9 hW9 => ⟨⟨_, (), rfl, ⟨fun h9 => absurd h9 (fun h9 => r_14.2.2 (in_yes e_11 h9.2 rfl rfl) c_15), fun _ => rfl⟩, ⟨gsd, hsi, rfl, ⟨fun h9 => absurd h9 (fun h9 => r_14.2.2 (in_yes e_11 h9.2 rfl rfl) c_15), fun _ => rfl⟩, by rw [ht9]; exact hP9, hD9⟩⟩, hS.F ht9⟩) hS.2.2 dX12_seat_28
