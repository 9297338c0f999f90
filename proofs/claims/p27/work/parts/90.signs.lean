theorem dX12_fails_0 : decode cX12_fails 0 = .ok (.aload_n 0, 1) := by decide +kernel
theorem dX12_fails_1 : decode cX12_fails 1 = .ok (.getfield 73, 3) := by decide +kernel
theorem qq_5_161 : Cond.fieldLink "WrongHoleModel" 73 "WrongHoleModel" "wrong" "I" ∈ TB := mk_tb (ti_5 (List.mem_of_getElem? (i := 161) rfl)) rfl
theorem dX12_fails_4 : decode cX12_fails 4 = .ok (.ifCond .ne 15, 3) := by decide +kernel
theorem dX12_fails_19 : decode cX12_fails 19 = .ok (.iconst 0, 1) := by decide +kernel
theorem dX12_fails_20 : decode cX12_fails 20 = .ok (.ireturn, 1) := by decide +kernel
theorem dX12_fails_7 : decode cX12_fails 7 = .ok (.aload_n 0, 1) := by decide +kernel
theorem dX12_fails_8 : decode cX12_fails 8 = .ok (.iconst 1, 1) := by decide +kernel
theorem dX12_fails_9 : decode cX12_fails 9 = .ok (.bipush 8, 2) := by decide +kernel
theorem dX12_fails_11 : decode cX12_fails 11 = .ok (.iload_n 2, 1) := by decide +kernel
theorem dX12_fails_12 : decode cX12_fails 12 = .ok (.imul, 1) := by decide +kernel
theorem dX12_fails_13 : decode cX12_fails 13 = .ok (.iadd, 1) := by decide +kernel
theorem dX12_fails_14 : decode cX12_fails 14 = .ok (.iload_n 1, 1) := by decide +kernel
theorem dX12_fails_15 : decode cX12_fails 15 = .ok (.iadd, 1) := by decide +kernel
theorem dX12_fails_16 : decode cX12_fails 16 = .ok (.putfield 73, 3) := by decide +kernel
set_option maxHeartbeats 4000000 in
set_option maxRecDepth 100000 in
theorem c_M_fails (l : Launch) (D : va_G) (cs : Nat → ClassId) (X : XX) (sz : Nat) (m0 : Nat) (mtp : Nat) (sta : Int32) (sru : Int32) (msg : Nat) (mln : Nat) (mcl : Nat) (mcs : Nat) (mrd : Nat) (snx : Int32) (swr : Int32) (snu : Int32) (ste : Int32) (sma : Int32) (sde : Int32) (sli : Int32) (mop : Nat) (sod : Int32) (mst : Nat) (sto : Int32) (mwd : Nat) (msd : Nat) (sx_ : Int32) (mws : Nat) (sun : Int32) (mfr : Nat) (mqu : Nat) (miw : Nat) (sfi : Int32) (swa : Int32) (sdx : Int64) (mim : Nat) (mix : Nat) (mmd : Nat) (a : Int32) (b : Int32) (r_a : Rg 0 4 a) (r_b : Rg 0 400 b) : Met l yX12_fails (Cond.code yX12_fails cX12_fails 3 (some .boolean) :: TB) (RM 0 0 0) (va_Pc [.ref m0, .int a, .int b] (PRE D cs X [(m0, .inr (10, (.ref mtp :: .int sta :: .int sru :: .ref msg :: .ref mln :: .ref mcl :: .ref mcs :: .ref mrd :: .int snx :: .int swr :: .int snu :: .int ste :: .int sma :: .int sde :: .int sli :: .ref mop :: .int sod :: .ref mst :: .int sto :: .ref mwd :: .ref msd :: .int sx_ :: .ref mws :: .int sun :: .ref mfr :: .ref mqu :: .ref miw :: .int sfi :: .int swa :: .long sdx :: .ref mim :: .ref mix :: .ref mmd :: [])))] [] sz)) (va_Qi (S := Unit) (fun r _ => Rg 0 0 r) (fun _ t => ∃ (swr2 : Int32), (¬ swr2 = 0) ∧ va_P D vwCl [(m0, .inr (10, (.ref mtp :: .int sta :: .int sru :: .ref msg :: .ref mln :: .ref mcl :: .ref mcs :: .ref mrd :: .int snx :: .int swr2 :: .int snu :: .int ste :: .int sma :: .int sde :: .int sli :: .ref mop :: .int sod :: .ref mst :: .int sto :: .ref mwd :: .ref msd :: .int sx_ :: .ref mws :: .int sun :: .ref mfr :: .ref mqu :: .ref miw :: .int sfi :: .int swa :: .long sdx :: .ref mim :: .ref mix :: .ref mmd :: [])))] t.heap ∧ va_D (va_A [(m0, .inr (10, (.ref mtp :: .int sta :: .int sru :: .ref msg :: .ref mln :: .ref mcl :: .ref mcs :: .ref mrd :: .int snx :: .int swr :: .int snu :: .int ste :: .int sma :: .int sde :: .int sli :: .ref mop :: .int sod :: .ref mst :: .int sto :: .ref mwd :: .ref msd :: .int sx_ :: .ref mws :: .int sun :: .ref mfr :: .ref mqu :: .ref miw :: .int sfi :: .int swa :: .long sdx :: .ref mim :: .ref mix :: .ref mmd :: [])))] sz) [(m0, .inr (10, (.ref mtp :: .int sta :: .int sru :: .ref msg :: .ref mln :: .ref mcl :: .ref mcs :: .ref mrd :: .int snx :: .int swr2 :: .int snu :: .int ste :: .int sma :: .int sde :: .int sli :: .ref mop :: .int sod :: .ref mst :: .int sto :: .ref mwd :: .ref msd :: .int sx_ :: .ref mws :: .int sun :: .ref mfr :: .ref mqu :: .ref miw :: .int sfi :: .int swa :: .long sdx :: .ref mim :: .ref mix :: .ref mmd :: [])))]) (va_A [(m0, .inr (10, (.ref mtp :: .int sta :: .int sru :: .ref msg :: .ref mln :: .ref mcl :: .ref mcs :: .ref mrd :: .int snx :: .int swr :: .int snu :: .int ste :: .int sma :: .int sde :: .int sli :: .ref mop :: .int sod :: .ref mst :: .int sto :: .ref mwd :: .ref msd :: .int sx_ :: .ref mws :: .int sun :: .ref mfr :: .ref mqu :: .ref miw :: .int sfi :: .int swa :: .long sdx :: .ref mim :: .ref mix :: .ref mmd :: [])))] sz)) 0 0 (va_A [(m0, .inr (10, (.ref mtp :: .int sta :: .int sru :: .ref msg :: .ref mln :: .ref mcl :: .ref mcs :: .ref mrd :: .int snx :: .int swr :: .int snu :: .int ste :: .int sma :: .int sde :: .int sli :: .ref mop :: .int sod :: .ref mst :: .int sto :: .ref mwd :: .ref msd :: .int sx_ :: .ref mws :: .int sun :: .ref mfr :: .ref mqu :: .ref miw :: .int sfi :: .int swa :: .long sdx :: .ref mim :: .ref mix :: .ref mmd :: [])))] sz) := by
  refine MET (y := yX12_fails) (cc := cX12_fails) (maxL := 3) (ret := (some .boolean)) (d := 0) (mc := 0) (ms := 0) (D := D) (cs := cs) (X := X) (ws := [(m0, .inr (10, (.ref mtp :: .int sta :: .int sru :: .ref msg :: .ref mln :: .ref mcl :: .ref mcs :: .ref mrd :: .int snx :: .int swr :: .int snu :: .int ste :: .int sma :: .int sde :: .int sli :: .ref mop :: .int sod :: .ref mst :: .int sto :: .ref mwd :: .ref msd :: .int sx_ :: .ref mws :: .int sun :: .ref mfr :: .ref mqu :: .ref miw :: .int sfi :: .int swa :: .long sdx :: .ref mim :: .ref mix :: .ref mmd :: [])))]) (wo := []) (sz := sz) (av := [.ref m0, .int a, .int b]) (Qc := fun A => va_Qi (S := Unit) (fun r _ => Rg 0 0 r) (fun _ t => ∃ (swr2 : Int32), (¬ swr2 = 0) ∧ va_P D vwCl [(m0, .inr (10, (.ref mtp :: .int sta :: .int sru :: .ref msg :: .ref mln :: .ref mcl :: .ref mcs :: .ref mrd :: .int snx :: .int swr2 :: .int snu :: .int ste :: .int sma :: .int sde :: .int sli :: .ref mop :: .int sod :: .ref mst :: .int sto :: .ref mwd :: .ref msd :: .int sx_ :: .ref mws :: .int sun :: .ref mfr :: .ref mqu :: .ref miw :: .int sfi :: .int swa :: .long sdx :: .ref mim :: .ref mix :: .ref mmd :: [])))] t.heap ∧ va_D A [(m0, .inr (10, (.ref mtp :: .int sta :: .int sru :: .ref msg :: .ref mln :: .ref mcl :: .ref mcs :: .ref mrd :: .int snx :: .int swr2 :: .int snu :: .int ste :: .int sma :: .int sde :: .int sli :: .ref mop :: .int sod :: .ref mst :: .int sto :: .ref mwd :: .ref msd :: .int sx_ :: .ref mws :: .int sun :: .ref mfr :: .ref mqu :: .ref miw :: .int sfi :: .int swa :: .long sdx :: .ref mim :: .ref mix :: .ref mmd :: [])))]) A) (by decide) (Nat.le_of_ble_eq_true rfl) ?_
  intro p e s m below meth c ls A H hHe hx hb hr hml hown hts hlocks hnm hP hK hD hA hS hN hR hX hXs hl
  have hD : va_D A [(m0, .inr (10, (.ref mtp :: .int sta :: .int sru :: .ref msg :: .ref mln :: .ref mcl :: .ref mcs :: .ref mrd :: .int snx :: .int swr :: .int snu :: .int ste :: .int sma :: .int sde :: .int sli :: .ref mop :: .int sod :: .ref mst :: .int sto :: .ref mwd :: .ref msd :: .int sx_ :: .ref mws :: .int sun :: .ref mfr :: .ref mqu :: .ref miw :: .int sfi :: .int swa :: .long sdx :: .ref mim :: .ref mix :: .ref mmd :: [])))] := hD
  obtain ⟨locs, hlc⟩ : ∃ z : List Loc, z = [] := ⟨_, rfl⟩
  rw [← hlc] at hS ⊢
  have hown : s.vm.findClass "WrongHoleModel" = some m.cls := hown
  have hT : ∀ w ∈ TB, w.before ([.ref m0, .int a, .int b] : List Value).toArray s = true := fun w h => hts w (List.mem_cons_of_mem _ h)
  have hl : lv_has ls 3 [(0, .ref m0), (1, .int a), (2, .int b)] := hl
  have hP : va_P D vwCl [(m0, .inr (10, (.ref mtp :: .int sta :: .int sru :: .ref msg :: .ref mln :: .ref mcl :: .ref mcs :: .ref mrd :: .int snx :: .int swr :: .int snu :: .int ste :: .int sma :: .int sde :: .int sli :: .ref mop :: .int sod :: .ref mst :: .int sto :: .ref mwd :: .ref msd :: .int sx_ :: .ref mws :: .int sun :: .ref mfr :: .ref mqu :: .ref miw :: .int sfi :: .int swa :: .long sdx :: .ref mim :: .ref mix :: .ref mmd :: [])))] H := hP
  refine lv_aload_n hx hb dX12_fails_0 rfl (lv_at hl 0 rfl) ?_
  refine va_get (D := D) (ci := 10) (v := .int swr) (C := "WrongHoleModel") (T := TX12) (N := 33) hx hb hts (iq_RX12 _) hown hK hP 0 rfl rfl 9 (by decide) (hT _ qq_5_161) (fun _ h9 => h9) rfl dX12_fails_1 ?_
  refine lv_if_ne (tgt := 19) hx hb dX12_fails_4 (by decide) (fun c_1 => ?_) (fun c_1 => ?_)
  · refine lv_iconst (v := 0) hx hb dX12_fails_19 (by decide) ?_
    refine W.widen (k := 0) (n := 0) (Nat.le_of_ble_eq_true rfl) (Nat.le_of_ble_eq_true rfl) ?_
    have hP9 := hP.sub (ws' := [(m0, .inr (10, (.ref mtp :: .int sta :: .int sru :: .ref msg :: .ref mln :: .ref mcl :: .ref mcs :: .ref mrd :: .int snx :: .int swr :: .int snu :: .int ste :: .int sma :: .int sde :: .int sli :: .ref mop :: .int sod :: .ref mst :: .int sto :: .ref mwd :: .ref msd :: .int sx_ :: .ref mws :: .int sun :: .ref mfr :: .ref mqu :: .ref miw :: .int sfi :: .int swa :: .long sdx :: .ref mim :: .ref mix :: .ref mmd :: [])))]) [0] rfl
    have hD9 := hD.sub (ws' := [(m0, .inr (10, (.ref mtp :: .int sta :: .int sru :: .ref msg :: .ref mln :: .ref mcl :: .ref mcs :: .ref mrd :: .int snx :: .int swr :: .int snu :: .int ste :: .int sma :: .int sde :: .int sli :: .ref mop :: .int sod :: .ref mst :: .int sto :: .ref mwd :: .ref msd :: .int sx_ :: .ref mws :: .int sun :: .ref mfr :: .ref mqu :: .ref miw :: .int sfi :: .int swa :: .long sdx :: .ref mim :: .ref mix :: .ref mmd :: [])))]) [0] (by decide) rfl
    exact W.zret (v := 0) (ty := .boolean) hx hb hr rfl (fun t9 ht9 hW9 => ⟨⟨_, (), rfl, (Rg.c (c := 0) (k := 0) rfl), ⟨swr, c_1, by rw [ht9]; exact hP9, hD9⟩⟩, hS.F ht9⟩) hS.2.2 dX12_fails_20
  · have r_2 : Rg 0 0 swr := Rg.eq_l c_1 (Rg.top swr) (Rg.c (c := 0) (k := 0) rfl) (by decide)
    refine lv_aload_n hx hb dX12_fails_7 rfl (lv_at hl 0 rfl) ?_
    refine lv_iconst (v := 1) hx hb dX12_fails_8 (by decide) ?_
    refine lv_bipush (v := 8) hx hb dX12_fails_9 (by decide) ?_
    refine lv_iload_n hx hb dX12_fails_11 rfl (lv_at hl 2 rfl) ?_
    refine lv_imul hx hb dX12_fails_12 ?_
    refine lv_topi (fun x_12 e_13 => ?_)
    have r_14 : Rg 0 3200 x_12 := Rg.mul (ha := 8) (hb := 400) e_13 (Rg.wk (lo2 := 0) (hi2 := 8) (Rg.c (c := 8) (k := 8) rfl) (by decide)) r_b (by decide)
    refine lv_iadd hx hb dX12_fails_13 ?_
    refine lv_topi (fun x_15 e_16 => ?_)
    have r_17 : Rg 1 3201 x_15 := Rg.add e_16 (Rg.c (c := 1) (k := 1) rfl) r_14 (by decide)
    refine lv_iload_n hx hb dX12_fails_14 rfl (lv_at hl 1 rfl) ?_
    refine lv_iadd hx hb dX12_fails_15 ?_
    refine lv_topi (fun x_18 e_19 => ?_)
    have r_20 : Rg 1 3205 x_18 := Rg.add e_19 r_17 r_a (by decide)
    refine va_put (D := D) (ci := 10) (v := .int x_18) (ty := .int) (C := "WrongHoleModel") (T := TX12) (N := 33) hx hb hts (iq_RX12 _) tyX12 tyX12_ok nmX12 hown hK hP hD hS 0 rfl rfl 9 (by decide) (hT _ qq_5_161) (fun _ h9 => h9) rfl (by decide +kernel) rfl rfl (Nat.le_of_ble_eq_true rfl) dX12_fails_16 (fun H locs hP hD hS => ?_)
    have hP : va_P D vwCl [(m0, .inr (10, (.ref mtp :: .int sta :: .int sru :: .ref msg :: .ref mln :: .ref mcl :: .ref mcs :: .ref mrd :: .int snx :: .int x_18 :: .int snu :: .int ste :: .int sma :: .int sde :: .int sli :: .ref mop :: .int sod :: .ref mst :: .int sto :: .ref mwd :: .ref msd :: .int sx_ :: .ref mws :: .int sun :: .ref mfr :: .ref mqu :: .ref miw :: .int sfi :: .int swa :: .long sdx :: .ref mim :: .ref mix :: .ref mmd :: [])))] H := hP
    have hD : va_D A [(m0, .inr (10, (.ref mtp :: .int sta :: .int sru :: .ref msg :: .ref mln :: .ref mcl :: .ref mcs :: .ref mrd :: .int snx :: .int x_18 :: .int snu :: .int ste :: .int sma :: .int sde :: .int sli :: .ref mop :: .int sod :: .ref mst :: .int sto :: .ref mwd :: .ref msd :: .int sx_ :: .ref mws :: .int sun :: .ref mfr :: .ref mqu :: .ref miw :: .int sfi :: .int swa :: .long sdx :: .ref mim :: .ref mix :: .ref mmd :: [])))] := hD
    refine lv_iconst (v := 0) hx hb dX12_fails_19 (by decide) ?_
    refine W.widen (k := 0) (n := 0) (Nat.le_of_ble_eq_true rfl) (Nat.le_of_ble_eq_true rfl) ?_
    have hP9 := hP.sub (ws' := [(m0, .inr (10, (.ref mtp :: .int sta :: .int sru :: .ref msg :: .ref mln :: .ref mcl :: .ref mcs :: .ref mrd :: .int snx :: .int x_18 :: .int snu :: .int ste :: .int sma :: .int sde :: .int sli :: .ref mop :: .int sod :: .ref mst :: .int sto :: .ref mwd :: .ref msd :: .int sx_ :: .ref mws :: .int sun :: .ref mfr :: .ref mqu :: .ref miw :: .int sfi :: .int swa :: .long sdx :: .ref mim :: .ref mix :: .ref mmd :: [])))]) [0] rfl
    have hD9 := hD.sub (ws' := [(m0, .inr (10, (.ref mtp :: .int sta :: .int sru :: .ref msg :: .ref mln :: .ref mcl :: .ref mcs :: .ref mrd :: .int snx :: .int x_18 :: .int snu :: .int ste :: .int sma :: .int sde :: .int sli :: .ref mop :: .int sod :: .ref mst :: .int sto :: .ref mwd :: .ref msd :: .int sx_ :: .ref mws :: .int sun :: .ref mfr :: .ref mqu :: .ref miw :: .int sfi :: .int swa :: .long sdx :: .ref mim :: .ref mix :: .ref mmd :: [])))]) [0] (by decide) rfl
    exact W.zret (v := 0) (ty := .boolean) hx hb hr rfl (fun t9 ht9 hW9 => ⟨⟨_, (), rfl, (Rg.c (c := 0) (k := 0) rfl), ⟨x_18, (Rg.nz r_20 (by decide)), by rw [ht9]; exact hP9, hD9⟩⟩, hS.F ht9⟩) hS.2.2 dX12_fails_20
theorem dX12_isDigit_0 : decode cX12_isDigit 0 = .ok (.iload_n 1, 1) := by decide +kernel
theorem dX12_isDigit_1 : decode cX12_isDigit 1 = .ok (.aload_n 0, 1) := by decide +kernel
theorem dX12_isDigit_2 : decode cX12_isDigit 2 = .ok (.getfield 65, 3) := by decide +kernel
theorem dX12_isDigit_5 : decode cX12_isDigit 5 = .ok (.if_icmp .ge 29, 3) := by decide +kernel
theorem dX12_isDigit_34 : decode cX12_isDigit 34 = .ok (.iconst 0, 1) := by decide +kernel
theorem dX12_isDigit_35 : decode cX12_isDigit 35 = .ok (.ireturn, 1) := by decide +kernel
theorem dX12_isDigit_8 : decode cX12_isDigit 8 = .ok (.aload_n 0, 1) := by decide +kernel
theorem dX12_isDigit_9 : decode cX12_isDigit 9 = .ok (.getfield 7, 3) := by decide +kernel
theorem dX12_isDigit_12 : decode cX12_isDigit 12 = .ok (.iload_n 1, 1) := by decide +kernel
theorem dX12_isDigit_13 : decode cX12_isDigit 13 = .ok (.baload, 1) := by decide +kernel
theorem dX12_isDigit_14 : decode cX12_isDigit 14 = .ok (.bipush 48, 2) := by decide +kernel
theorem dX12_isDigit_16 : decode cX12_isDigit 16 = .ok (.if_icmp .lt 18, 3) := by decide +kernel
theorem dX12_isDigit_19 : decode cX12_isDigit 19 = .ok (.aload_n 0, 1) := by decide +kernel
theorem dX12_isDigit_20 : decode cX12_isDigit 20 = .ok (.getfield 7, 3) := by decide +kernel
theorem dX12_isDigit_23 : decode cX12_isDigit 23 = .ok (.iload_n 1, 1) := by decide +kernel
theorem dX12_isDigit_24 : decode cX12_isDigit 24 = .ok (.baload, 1) := by decide +kernel
theorem dX12_isDigit_25 : decode cX12_isDigit 25 = .ok (.bipush 57, 2) := by decide +kernel
theorem dX12_isDigit_27 : decode cX12_isDigit 27 = .ok (.if_icmp .gt 7, 3) := by decide +kernel
theorem dX12_isDigit_30 : decode cX12_isDigit 30 = .ok (.iconst 1, 1) := by decide +kernel
theorem dX12_isDigit_31 : decode cX12_isDigit 31 = .ok (.goto 4, 3) := by decide +kernel
set_option maxHeartbeats 4000000 in
set_option maxRecDepth 100000 in
theorem c_M_isDigit (l : Launch) (D : va_G) (cs : Nat → ClassId) (m0 : Nat) (mtp : Nat) (sta : Int32) (sru : Int32) (msg : Nat) (mln : Nat) (mcl : Nat) (mcs : Nat) (mrd : Nat) (snx : Int32) (swr : Int32) (snu : Int32) (ste : Int32) (sma : Int32) (sde : Int32) (sli : Int32) (mop : Nat) (sod : Int32) (mst : Nat) (sto : Int32) (mwd : Nat) (msd : Nat) (sx_ : Int32) (mws : Nat) (sun : Int32) (mfr : Nat) (mqu : Nat) (miw : Nat) (sfi : Int32) (swa : Int32) (sdx : Int64) (mim : Nat) (mix : Nat) (mmd : Nat) (gtp : Nat → Int32) (b : Int32) (r_sta : Rg 0 400 sta) (r_b : Rg 0 2147483647 b) : Met l yX12_isDigit (Cond.code yX12_isDigit cX12_isDigit 2 (some .boolean) :: TB) (RM 0 0 0) (va_Pc [.ref m0, .int b] (PRR D cs [(m0, .inr (10, (.ref mtp :: .int sta :: .int sru :: .ref msg :: .ref mln :: .ref mcl :: .ref mcs :: .ref mrd :: .int snx :: .int swr :: .int snu :: .int ste :: .int sma :: .int sde :: .int sli :: .ref mop :: .int sod :: .ref mst :: .int sto :: .ref mwd :: .ref msd :: .int sx_ :: .ref mws :: .int sun :: .ref mfr :: .ref mqu :: .ref miw :: .int sfi :: .int swa :: .long sdx :: .ref mim :: .ref mix :: .ref mmd :: []))), (mtp, .inl ((cs 2), 400, .inl gtp))])) (QP (fun v => ∃ x : Int32, v = .int x ∧ Rg 0 1 x ∧ (¬ x = 0 → DG gtp sta b) ∧ (x = 0 → ¬ DG gtp sta b))) 0 0 (fun _ => False) := by
  refine MER (y := yX12_isDigit) (cc := cX12_isDigit) (maxL := 2) (ret := (some .boolean)) (d := 0) (D := D) (cs := cs) (ws := [(m0, .inr (10, (.ref mtp :: .int sta :: .int sru :: .ref msg :: .ref mln :: .ref mcl :: .ref mcs :: .ref mrd :: .int snx :: .int swr :: .int snu :: .int ste :: .int sma :: .int sde :: .int sli :: .ref mop :: .int sod :: .ref mst :: .int sto :: .ref mwd :: .ref msd :: .int sx_ :: .ref mws :: .int sun :: .ref mfr :: .ref mqu :: .ref miw :: .int sfi :: .int swa :: .long sdx :: .ref mim :: .ref mix :: .ref mmd :: []))), (mtp, .inl ((cs 2), 400, .inl gtp))]) (av := [.ref m0, .int b]) (Qc := QP (fun v => ∃ x : Int32, v = .int x ∧ Rg 0 1 x ∧ (¬ x = 0 → DG gtp sta b) ∧ (x = 0 → ¬ DG gtp sta b))) (by decide) (Nat.le_of_ble_eq_true rfl) ?_
  intro p e s m below meth c ls H hHe hx hb hr hml hown hts hlocks hP hK hN hl
  obtain ⟨locs, hlc⟩ : ∃ z : List Loc, z = [] := ⟨_, rfl⟩
  rw [← hlc]
  have hown : s.vm.findClass "WrongHoleModel" = some m.cls := hown
  have hT : ∀ w ∈ TB, w.before ([.ref m0, .int b] : List Value).toArray s = true := fun w h => hts w (List.mem_cons_of_mem _ h)
  have hl : lv_has ls 2 [(0, .ref m0), (1, .int b)] := hl
  have hP : va_P D vwCl [(m0, .inr (10, (.ref mtp :: .int sta :: .int sru :: .ref msg :: .ref mln :: .ref mcl :: .ref mcs :: .ref mrd :: .int snx :: .int swr :: .int snu :: .int ste :: .int sma :: .int sde :: .int sli :: .ref mop :: .int sod :: .ref mst :: .int sto :: .ref mwd :: .ref msd :: .int sx_ :: .ref mws :: .int sun :: .ref mfr :: .ref mqu :: .ref miw :: .int sfi :: .int swa :: .long sdx :: .ref mim :: .ref mix :: .ref mmd :: []))), (mtp, .inl ((cs 2), 400, .inl gtp))] H := hP
  refine lv_iload_n hx hb dX12_isDigit_0 rfl (lv_at hl 1 rfl) ?_
  refine lv_aload_n hx hb dX12_isDigit_1 rfl (lv_at hl 0 rfl) ?_
  refine va_get (D := D) (ci := 10) (v := .int sta) (C := "WrongHoleModel") (T := TX12) (N := 33) hx hb hts (iq_RX12 _) hown hK hP 0 rfl rfl 1 (by decide) (hT _ qq_5_153) (fun _ h9 => h9) rfl dX12_isDigit_2 ?_
  refine lv_icmp_ge (tgt := 34) hx hb dX12_isDigit_5 (by decide) (fun c_1 => ?_) (fun c_1 => ?_)
  · refine lv_iconst (v := 0) hx hb dX12_isDigit_34 (by decide) ?_
    exact W.zret (v := 0) (ty := .boolean) hx hb hr rfl (fun t9 ht9 hW9 => ⟨⟨_, rfl, _, rfl, ⟨⟨by decide, by decide⟩, fun q9 => absurd rfl q9, fun _ => (fun h9 => absurd h9.1 (i_C2 c_1))⟩⟩, ht9.trans hHe⟩) (fun _ h9 => by rw [hlc] at h9; exact absurd h9 List.not_mem_nil) dX12_isDigit_35
  · have r_2 : Rg 0 399 b := Rg.lt_l (nle_lt c_1) r_b r_sta (by decide)
    have r_3 : Rg 1 400 sta := Rg.lt_r (nle_lt c_1) r_b r_sta (by decide)
    refine lv_aload_n hx hb dX12_isDigit_8 rfl (lv_at hl 0 rfl) ?_
    refine va_get (D := D) (ci := 10) (v := .ref mtp) (C := "WrongHoleModel") (T := TX12) (N := 33) hx hb hts (iq_RX12 _) hown hK hP 0 rfl rfl 0 (by decide) (hT _ qq_5_152) (fun _ h9 => h9) rfl dX12_isDigit_9 ?_
    refine lv_iload_n hx hb dX12_isDigit_12 rfl (lv_at hl 1 rfl) ?_
    have hi_14 : vp_in b 400 := Rg.in r_2 (by decide)
    refine va_bald hx hb hK hP 1 2 rfl rfl hi_14 dX12_isDigit_13 ?_
    refine lv_topi (fun x_15 e_16 => ?_)
    refine lv_bipush (v := 48) hx hb dX12_isDigit_14 (by decide) ?_
    refine lv_icmp_lt (tgt := 34) hx hb dX12_isDigit_16 (by decide) (fun c_17 => ?_) (fun c_17 => ?_)
    · have r_18 : Rg (-2147483648) 47 x_15 := Rg.lt_l c_17 (Rg.top x_15) (Rg.c (c := 48) (k := 48) rfl) (by decide)
      refine lv_iconst (v := 0) hx hb dX12_isDigit_34 (by decide) ?_
      exact W.zret (v := 0) (ty := .boolean) hx hb hr rfl (fun t9 ht9 hW9 => ⟨⟨_, rfl, _, rfl, ⟨⟨by decide, by decide⟩, fun q9 => absurd rfl q9, fun _ => (fun h9 => h9.2.1 (by rw [show gtp (cN b) = x_15 from e_16.symm]; exact c_17))⟩⟩, ht9.trans hHe⟩) (fun _ h9 => by rw [hlc] at h9; exact absurd h9 List.not_mem_nil) dX12_isDigit_35
    · have r_19 : Rg 48 2147483647 x_15 := Rg.le_r (nlt_le c_17) (Rg.c (c := 48) (k := 48) rfl) (Rg.top x_15) (by decide)
      refine lv_aload_n hx hb dX12_isDigit_19 rfl (lv_at hl 0 rfl) ?_
      refine va_get (D := D) (ci := 10) (v := .ref mtp) (C := "WrongHoleModel") (T := TX12) (N := 33) hx hb hts (iq_RX12 _) hown hK hP 0 rfl rfl 0 (by decide) (hT _ qq_5_152) (fun _ h9 => h9) rfl dX12_isDigit_20 ?_
      refine lv_iload_n hx hb dX12_isDigit_23 rfl (lv_at hl 1 rfl) ?_
      have hi_25 : vp_in b 400 := Rg.in r_2 (by decide)
      refine va_bald hx hb hK hP 1 2 rfl rfl hi_25 dX12_isDigit_24 ?_
      refine lv_topi (fun x_26 e_27 => ?_)
      refine lv_bipush (v := 57) hx hb dX12_isDigit_25 (by decide) ?_
      refine lv_icmp_gt (tgt := 34) hx hb dX12_isDigit_27 (by decide) (fun c_28 => ?_) (fun c_28 => ?_)
      · have r_29 : Rg 58 2147483647 x_26 := Rg.lt_r c_28 (Rg.c (c := 57) (k := 57) rfl) (Rg.top x_26) (by decide)
        refine lv_iconst (v := 0) hx hb dX12_isDigit_34 (by decide) ?_
        exact W.zret (v := 0) (ty := .boolean) hx hb hr rfl (fun t9 ht9 hW9 => ⟨⟨_, rfl, _, rfl, ⟨⟨by decide, by decide⟩, fun q9 => absurd rfl q9, fun _ => (fun h9 => h9.2.2 (by rw [show gtp (cN b) = x_26 from e_27.symm]; exact c_28))⟩⟩, ht9.trans hHe⟩) (fun _ h9 => by rw [hlc] at h9; exact absurd h9 List.not_mem_nil) dX12_isDigit_35
      · have r_30 : Rg (-2147483648) 57 x_26 := Rg.le_l (nlt_le c_28) (Rg.top x_26) (Rg.c (c := 57) (k := 57) rfl) (by decide)
        refine lv_iconst (v := 1) hx hb dX12_isDigit_30 (by decide) ?_
        refine lv_goto (tgt := 35) hx hb dX12_isDigit_31 (by decide) ?_
        exact W.zret (v := 1) (ty := .boolean) hx hb hr rfl (fun t9 ht9 hW9 => ⟨⟨_, rfl, _, rfl, ⟨⟨by decide, by decide⟩, fun _ => ⟨nle_lt c_1, by rw [show gtp (cN b) = x_15 from e_16.symm]; exact c_17, by rw [show gtp (cN b) = x_26 from e_27.symm]; exact c_28⟩, fun q9 => absurd q9 (by decide)⟩⟩, ht9.trans hHe⟩) (fun _ h9 => by rw [hlc] at h9; exact absurd h9 List.not_mem_nil) dX12_isDigit_35
theorem dX12_isLetter_0 : decode cX12_isLetter 0 = .ok (.iload_n 1, 1) := by decide +kernel
theorem dX12_isLetter_1 : decode cX12_isLetter 1 = .ok (.aload_n 0, 1) := by decide +kernel
theorem dX12_isLetter_2 : decode cX12_isLetter 2 = .ok (.getfield 65, 3) := by decide +kernel
theorem dX12_isLetter_5 : decode cX12_isLetter 5 = .ok (.if_icmp .ge 29, 3) := by decide +kernel
theorem dX12_isLetter_34 : decode cX12_isLetter 34 = .ok (.iconst 0, 1) := by decide +kernel
theorem dX12_isLetter_35 : decode cX12_isLetter 35 = .ok (.ireturn, 1) := by decide +kernel
theorem dX12_isLetter_8 : decode cX12_isLetter 8 = .ok (.aload_n 0, 1) := by decide +kernel
theorem dX12_isLetter_9 : decode cX12_isLetter 9 = .ok (.getfield 7, 3) := by decide +kernel
theorem dX12_isLetter_12 : decode cX12_isLetter 12 = .ok (.iload_n 1, 1) := by decide +kernel
theorem dX12_isLetter_13 : decode cX12_isLetter 13 = .ok (.baload, 1) := by decide +kernel
theorem dX12_isLetter_14 : decode cX12_isLetter 14 = .ok (.bipush 97, 2) := by decide +kernel
theorem dX12_isLetter_16 : decode cX12_isLetter 16 = .ok (.if_icmp .lt 18, 3) := by decide +kernel
theorem dX12_isLetter_19 : decode cX12_isLetter 19 = .ok (.aload_n 0, 1) := by decide +kernel
theorem dX12_isLetter_20 : decode cX12_isLetter 20 = .ok (.getfield 7, 3) := by decide +kernel
theorem dX12_isLetter_23 : decode cX12_isLetter 23 = .ok (.iload_n 1, 1) := by decide +kernel
theorem dX12_isLetter_24 : decode cX12_isLetter 24 = .ok (.baload, 1) := by decide +kernel
theorem dX12_isLetter_25 : decode cX12_isLetter 25 = .ok (.bipush 122, 2) := by decide +kernel
theorem dX12_isLetter_27 : decode cX12_isLetter 27 = .ok (.if_icmp .gt 7, 3) := by decide +kernel
theorem dX12_isLetter_30 : decode cX12_isLetter 30 = .ok (.iconst 1, 1) := by decide +kernel
theorem dX12_isLetter_31 : decode cX12_isLetter 31 = .ok (.goto 4, 3) := by decide +kernel
set_option maxHeartbeats 4000000 in
set_option maxRecDepth 100000 in
theorem c_M_isLetter (l : Launch) (D : va_G) (cs : Nat → ClassId) (m0 : Nat) (mtp : Nat) (sta : Int32) (sru : Int32) (msg : Nat) (mln : Nat) (mcl : Nat) (mcs : Nat) (mrd : Nat) (snx : Int32) (swr : Int32) (snu : Int32) (ste : Int32) (sma : Int32) (sde : Int32) (sli : Int32) (mop : Nat) (sod : Int32) (mst : Nat) (sto : Int32) (mwd : Nat) (msd : Nat) (sx_ : Int32) (mws : Nat) (sun : Int32) (mfr : Nat) (mqu : Nat) (miw : Nat) (sfi : Int32) (swa : Int32) (sdx : Int64) (mim : Nat) (mix : Nat) (mmd : Nat) (gtp : Nat → Int32) (b : Int32) (r_sta : Rg 0 400 sta) (r_b : Rg 0 2147483647 b) : Met l yX12_isLetter (Cond.code yX12_isLetter cX12_isLetter 2 (some .boolean) :: TB) (RM 0 0 0) (va_Pc [.ref m0, .int b] (PRR D cs [(m0, .inr (10, (.ref mtp :: .int sta :: .int sru :: .ref msg :: .ref mln :: .ref mcl :: .ref mcs :: .ref mrd :: .int snx :: .int swr :: .int snu :: .int ste :: .int sma :: .int sde :: .int sli :: .ref mop :: .int sod :: .ref mst :: .int sto :: .ref mwd :: .ref msd :: .int sx_ :: .ref mws :: .int sun :: .ref mfr :: .ref mqu :: .ref miw :: .int sfi :: .int swa :: .long sdx :: .ref mim :: .ref mix :: .ref mmd :: []))), (mtp, .inl ((cs 2), 400, .inl gtp))])) (QP (fun v => ∃ x : Int32, v = .int x ∧ Rg 0 1 x ∧ (¬ x = 0 → LT gtp sta b) ∧ (x = 0 → ¬ LT gtp sta b))) 0 0 (fun _ => False) := by
  refine MER (y := yX12_isLetter) (cc := cX12_isLetter) (maxL := 2) (ret := (some .boolean)) (d := 0) (D := D) (cs := cs) (ws := [(m0, .inr (10, (.ref mtp :: .int sta :: .int sru :: .ref msg :: .ref mln :: .ref mcl :: .ref mcs :: .ref mrd :: .int snx :: .int swr :: .int snu :: .int ste :: .int sma :: .int sde :: .int sli :: .ref mop :: .int sod :: .ref mst :: .int sto :: .ref mwd :: .ref msd :: .int sx_ :: .ref mws :: .int sun :: .ref mfr :: .ref mqu :: .ref miw :: .int sfi :: .int swa :: .long sdx :: .ref mim :: .ref mix :: .ref mmd :: []))), (mtp, .inl ((cs 2), 400, .inl gtp))]) (av := [.ref m0, .int b]) (Qc := QP (fun v => ∃ x : Int32, v = .int x ∧ Rg 0 1 x ∧ (¬ x = 0 → LT gtp sta b) ∧ (x = 0 → ¬ LT gtp sta b))) (by decide) (Nat.le_of_ble_eq_true rfl) ?_
  intro p e s m below meth c ls H hHe hx hb hr hml hown hts hlocks hP hK hN hl
  obtain ⟨locs, hlc⟩ : ∃ z : List Loc, z = [] := ⟨_, rfl⟩
  rw [← hlc]
  have hown : s.vm.findClass "WrongHoleModel" = some m.cls := hown
  have hT : ∀ w ∈ TB, w.before ([.ref m0, .int b] : List Value).toArray s = true := fun w h => hts w (List.mem_cons_of_mem _ h)
  have hl : lv_has ls 2 [(0, .ref m0), (1, .int b)] := hl
  have hP : va_P D vwCl [(m0, .inr (10, (.ref mtp :: .int sta :: .int sru :: .ref msg :: .ref mln :: .ref mcl :: .ref mcs :: .ref mrd :: .int snx :: .int swr :: .int snu :: .int ste :: .int sma :: .int sde :: .int sli :: .ref mop :: .int sod :: .ref mst :: .int sto :: .ref mwd :: .ref msd :: .int sx_ :: .ref mws :: .int sun :: .ref mfr :: .ref mqu :: .ref miw :: .int sfi :: .int swa :: .long sdx :: .ref mim :: .ref mix :: .ref mmd :: []))), (mtp, .inl ((cs 2), 400, .inl gtp))] H := hP
  refine lv_iload_n hx hb dX12_isLetter_0 rfl (lv_at hl 1 rfl) ?_
  refine lv_aload_n hx hb dX12_isLetter_1 rfl (lv_at hl 0 rfl) ?_
  refine va_get (D := D) (ci := 10) (v := .int sta) (C := "WrongHoleModel") (T := TX12) (N := 33) hx hb hts (iq_RX12 _) hown hK hP 0 rfl rfl 1 (by decide) (hT _ qq_5_153) (fun _ h9 => h9) rfl dX12_isLetter_2 ?_
  refine lv_icmp_ge (tgt := 34) hx hb dX12_isLetter_5 (by decide) (fun c_1 => ?_) (fun c_1 => ?_)
  · refine lv_iconst (v := 0) hx hb dX12_isLetter_34 (by decide) ?_
    exact W.zret (v := 0) (ty := .boolean) hx hb hr rfl (fun t9 ht9 hW9 => ⟨⟨_, rfl, _, rfl, ⟨⟨by decide, by decide⟩, fun q9 => absurd rfl q9, fun _ => (fun h9 => absurd h9.1 (i_C2 c_1))⟩⟩, ht9.trans hHe⟩) (fun _ h9 => by rw [hlc] at h9; exact absurd h9 List.not_mem_nil) dX12_isLetter_35
  · have r_2 : Rg 0 399 b := Rg.lt_l (nle_lt c_1) r_b r_sta (by decide)
    have r_3 : Rg 1 400 sta := Rg.lt_r (nle_lt c_1) r_b r_sta (by decide)
    refine lv_aload_n hx hb dX12_isLetter_8 rfl (lv_at hl 0 rfl) ?_
    refine va_get (D := D) (ci := 10) (v := .ref mtp) (C := "WrongHoleModel") (T := TX12) (N := 33) hx hb hts (iq_RX12 _) hown hK hP 0 rfl rfl 0 (by decide) (hT _ qq_5_152) (fun _ h9 => h9) rfl dX12_isLetter_9 ?_
    refine lv_iload_n hx hb dX12_isLetter_12 rfl (lv_at hl 1 rfl) ?_
    have hi_14 : vp_in b 400 := Rg.in r_2 (by decide)
    refine va_bald hx hb hK hP 1 2 rfl rfl hi_14 dX12_isLetter_13 ?_
    refine lv_topi (fun x_15 e_16 => ?_)
    refine lv_bipush (v := 97) hx hb dX12_isLetter_14 (by decide) ?_
    refine lv_icmp_lt (tgt := 34) hx hb dX12_isLetter_16 (by decide) (fun c_17 => ?_) (fun c_17 => ?_)
    · have r_18 : Rg (-2147483648) 96 x_15 := Rg.lt_l c_17 (Rg.top x_15) (Rg.c (c := 97) (k := 97) rfl) (by decide)
      refine lv_iconst (v := 0) hx hb dX12_isLetter_34 (by decide) ?_
      exact W.zret (v := 0) (ty := .boolean) hx hb hr rfl (fun t9 ht9 hW9 => ⟨⟨_, rfl, _, rfl, ⟨⟨by decide, by decide⟩, fun q9 => absurd rfl q9, fun _ => (fun h9 => h9.2.1 (by rw [show gtp (cN b) = x_15 from e_16.symm]; exact c_17))⟩⟩, ht9.trans hHe⟩) (fun _ h9 => by rw [hlc] at h9; exact absurd h9 List.not_mem_nil) dX12_isLetter_35
    · have r_19 : Rg 97 2147483647 x_15 := Rg.le_r (nlt_le c_17) (Rg.c (c := 97) (k := 97) rfl) (Rg.top x_15) (by decide)
      refine lv_aload_n hx hb dX12_isLetter_19 rfl (lv_at hl 0 rfl) ?_
      refine va_get (D := D) (ci := 10) (v := .ref mtp) (C := "WrongHoleModel") (T := TX12) (N := 33) hx hb hts (iq_RX12 _) hown hK hP 0 rfl rfl 0 (by decide) (hT _ qq_5_152) (fun _ h9 => h9) rfl dX12_isLetter_20 ?_
      refine lv_iload_n hx hb dX12_isLetter_23 rfl (lv_at hl 1 rfl) ?_
      have hi_25 : vp_in b 400 := Rg.in r_2 (by decide)
      refine va_bald hx hb hK hP 1 2 rfl rfl hi_25 dX12_isLetter_24 ?_
      refine lv_topi (fun x_26 e_27 => ?_)
      refine lv_bipush (v := 122) hx hb dX12_isLetter_25 (by decide) ?_
      refine lv_icmp_gt (tgt := 34) hx hb dX12_isLetter_27 (by decide) (fun c_28 => ?_) (fun c_28 => ?_)
      · have r_29 : Rg 123 2147483647 x_26 := Rg.lt_r c_28 (Rg.c (c := 122) (k := 122) rfl) (Rg.top x_26) (by decide)
        refine lv_iconst (v := 0) hx hb dX12_isLetter_34 (by decide) ?_
        exact W.zret (v := 0) (ty := .boolean) hx hb hr rfl (fun t9 ht9 hW9 => ⟨⟨_, rfl, _, rfl, ⟨⟨by decide, by decide⟩, fun q9 => absurd rfl q9, fun _ => (fun h9 => h9.2.2 (by rw [show gtp (cN b) = x_26 from e_27.symm]; exact c_28))⟩⟩, ht9.trans hHe⟩) (fun _ h9 => by rw [hlc] at h9; exact absurd h9 List.not_mem_nil) dX12_isLetter_35
      · have r_30 : Rg (-2147483648) 122 x_26 := Rg.le_l (nlt_le c_28) (Rg.top x_26) (Rg.c (c := 122) (k := 122) rfl) (by decide)
        refine lv_iconst (v := 1) hx hb dX12_isLetter_30 (by decide) ?_
        refine lv_goto (tgt := 35) hx hb dX12_isLetter_31 (by decide) ?_
        exact W.zret (v := 1) (ty := .boolean) hx hb hr rfl (fun t9 ht9 hW9 => ⟨⟨_, rfl, _, rfl, ⟨⟨by decide, by decide⟩, fun _ => ⟨nle_lt c_1, by rw [show gtp (cN b) = x_15 from e_16.symm]; exact c_17, by rw [show gtp (cN b) = x_26 from e_27.symm]; exact c_28⟩, fun q9 => absurd q9 (by decide)⟩⟩, ht9.trans hHe⟩) (fun _ h9 => by rw [hlc] at h9; exact absurd h9 List.not_mem_nil) dX12_isLetter_35
