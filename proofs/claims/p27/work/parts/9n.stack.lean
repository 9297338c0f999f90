theorem dX12_push_0 : decode cX12_push 0 = .ok (.aload_n 0, 1) := by decide +kernel
theorem dX12_push_1 : decode cX12_push 1 = .ok (.getfield 32, 3) := by decide +kernel
theorem dX12_push_4 : decode cX12_push 4 = .ok (.aload_n 0, 1) := by decide +kernel
theorem dX12_push_5 : decode cX12_push 5 = .ok (.getfield 304, 3) := by decide +kernel
theorem qq_5_170 : Cond.fieldLink "WrongHoleModel" 304 "WrongHoleModel" "top" "I" ∈ TB := mk_tb (ti_5 (List.mem_of_getElem? (i := 170) rfl)) rfl
theorem dX12_push_8 : decode cX12_push 8 = .ok (.lload_n 1, 1) := by decide +kernel
theorem dX12_push_9 : decode cX12_push 9 = .ok (.lastore, 1) := by decide +kernel
theorem dX12_push_10 : decode cX12_push 10 = .ok (.aload_n 0, 1) := by decide +kernel
theorem dX12_push_11 : decode cX12_push 11 = .ok (.dup, 1) := by decide +kernel
theorem dX12_push_12 : decode cX12_push 12 = .ok (.getfield 304, 3) := by decide +kernel
theorem dX12_push_15 : decode cX12_push 15 = .ok (.iconst 1, 1) := by decide +kernel
theorem dX12_push_16 : decode cX12_push 16 = .ok (.iadd, 1) := by decide +kernel
theorem dX12_push_17 : decode cX12_push 17 = .ok (.putfield 304, 3) := by decide +kernel
theorem dX12_push_20 : decode cX12_push 20 = .ok (.return_, 1) := by decide +kernel
set_option maxHeartbeats 4000000 in
set_option maxRecDepth 100000 in
theorem c_M_push (l : Launch) (D : va_G) (cs : Nat → ClassId) (X : XX) (sz : Nat) (m0 : Nat) (mtp : Nat) (sta : Int32) (sru : Int32) (msg : Nat) (mln : Nat) (mcl : Nat) (mcs : Nat) (mrd : Nat) (snx : Int32) (swr : Int32) (snu : Int32) (ste : Int32) (sma : Int32) (sde : Int32) (sli : Int32) (mop : Nat) (sod : Int32) (mst : Nat) (sto : Int32) (mwd : Nat) (msd : Nat) (sx_ : Int32) (mws : Nat) (sun : Int32) (mfr : Nat) (mqu : Nat) (miw : Nat) (sfi : Int32) (swa : Int32) (sdx : Int64) (mim : Nat) (mix : Nat) (mmd : Nat) (gst : Nat → Int64) (y1 : Int64) (r_sto : Rg 0 63 sto) : Met l yX12_push (Cond.code yX12_push cX12_push 3 none :: TB) (RM 0 0 0) (va_Pc [.ref m0, .long y1] (PRE D cs X [(m0, .inr (10, (.ref mtp :: .int sta :: .int sru :: .ref msg :: .ref mln :: .ref mcl :: .ref mcs :: .ref mrd :: .int snx :: .int swr :: .int snu :: .int ste :: .int sma :: .int sde :: .int sli :: .ref mop :: .int sod :: .ref mst :: .int sto :: .ref mwd :: .ref msd :: .int sx_ :: .ref mws :: .int sun :: .ref mfr :: .ref mqu :: .ref miw :: .int sfi :: .int swa :: .long sdx :: .ref mim :: .ref mix :: .ref mmd :: []))), (mst, .inl ((cs 4), 64, .inr (.inl gst)))] [] sz)) (va_Qv (S := Unit) (fun _ => True) (fun _ t => ∃ (sto2 : Int32), ∃ (gst2 : Nat → Int64), (sto2 = sto + 1) ∧ va_P D vwCl [(m0, .inr (10, (.ref mtp :: .int sta :: .int sru :: .ref msg :: .ref mln :: .ref mcl :: .ref mcs :: .ref mrd :: .int snx :: .int swr :: .int snu :: .int ste :: .int sma :: .int sde :: .int sli :: .ref mop :: .int sod :: .ref mst :: .int sto2 :: .ref mwd :: .ref msd :: .int sx_ :: .ref mws :: .int sun :: .ref mfr :: .ref mqu :: .ref miw :: .int sfi :: .int swa :: .long sdx :: .ref mim :: .ref mix :: .ref mmd :: []))), (mst, .inl ((cs 4), 64, .inr (.inl gst2)))] t.heap ∧ va_D (va_A [(m0, .inr (10, (.ref mtp :: .int sta :: .int sru :: .ref msg :: .ref mln :: .ref mcl :: .ref mcs :: .ref mrd :: .int snx :: .int swr :: .int snu :: .int ste :: .int sma :: .int sde :: .int sli :: .ref mop :: .int sod :: .ref mst :: .int sto :: .ref mwd :: .ref msd :: .int sx_ :: .ref mws :: .int sun :: .ref mfr :: .ref mqu :: .ref miw :: .int sfi :: .int swa :: .long sdx :: .ref mim :: .ref mix :: .ref mmd :: []))), (mst, .inl ((cs 4), 64, .inr (.inl gst)))] sz) [(m0, .inr (10, (.ref mtp :: .int sta :: .int sru :: .ref msg :: .ref mln :: .ref mcl :: .ref mcs :: .ref mrd :: .int snx :: .int swr :: .int snu :: .int ste :: .int sma :: .int sde :: .int sli :: .ref mop :: .int sod :: .ref mst :: .int sto2 :: .ref mwd :: .ref msd :: .int sx_ :: .ref mws :: .int sun :: .ref mfr :: .ref mqu :: .ref miw :: .int sfi :: .int swa :: .long sdx :: .ref mim :: .ref mix :: .ref mmd :: []))), (mst, .inl ((cs 4), 64, .inr (.inl gst2)))]) (va_A [(m0, .inr (10, (.ref mtp :: .int sta :: .int sru :: .ref msg :: .ref mln :: .ref mcl :: .ref mcs :: .ref mrd :: .int snx :: .int swr :: .int snu :: .int ste :: .int sma :: .int sde :: .int sli :: .ref mop :: .int sod :: .ref mst :: .int sto :: .ref mwd :: .ref msd :: .int sx_ :: .ref mws :: .int sun :: .ref mfr :: .ref mqu :: .ref miw :: .int sfi :: .int swa :: .long sdx :: .ref mim :: .ref mix :: .ref mmd :: []))), (mst, .inl ((cs 4), 64, .inr (.inl gst)))] sz)) 0 0 (va_A [(m0, .inr (10, (.ref mtp :: .int sta :: .int sru :: .ref msg :: .ref mln :: .ref mcl :: .ref mcs :: .ref mrd :: .int snx :: .int swr :: .int snu :: .int ste :: .int sma :: .int sde :: .int sli :: .ref mop :: .int sod :: .ref mst :: .int sto :: .ref mwd :: .ref msd :: .int sx_ :: .ref mws :: .int sun :: .ref mfr :: .ref mqu :: .ref miw :: .int sfi :: .int swa :: .long sdx :: .ref mim :: .ref mix :: .ref mmd :: []))), (mst, .inl ((cs 4), 64, .inr (.inl gst)))] sz) := by
  refine MET (y := yX12_push) (cc := cX12_push) (maxL := 3) (ret := none) (d := 0) (mc := 0) (ms := 0) (D := D) (cs := cs) (X := X) (ws := [(m0, .inr (10, (.ref mtp :: .int sta :: .int sru :: .ref msg :: .ref mln :: .ref mcl :: .ref mcs :: .ref mrd :: .int snx :: .int swr :: .int snu :: .int ste :: .int sma :: .int sde :: .int sli :: .ref mop :: .int sod :: .ref mst :: .int sto :: .ref mwd :: .ref msd :: .int sx_ :: .ref mws :: .int sun :: .ref mfr :: .ref mqu :: .ref miw :: .int sfi :: .int swa :: .long sdx :: .ref mim :: .ref mix :: .ref mmd :: []))), (mst, .inl ((cs 4), 64, .inr (.inl gst)))]) (wo := []) (sz := sz) (av := [.ref m0, .long y1]) (Qc := fun A => va_Qv (S := Unit) (fun _ => True) (fun _ t => ∃ (sto2 : Int32), ∃ (gst2 : Nat → Int64), (sto2 = sto + 1) ∧ va_P D vwCl [(m0, .inr (10, (.ref mtp :: .int sta :: .int sru :: .ref msg :: .ref mln :: .ref mcl :: .ref mcs :: .ref mrd :: .int snx :: .int swr :: .int snu :: .int ste :: .int sma :: .int sde :: .int sli :: .ref mop :: .int sod :: .ref mst :: .int sto2 :: .ref mwd :: .ref msd :: .int sx_ :: .ref mws :: .int sun :: .ref mfr :: .ref mqu :: .ref miw :: .int sfi :: .int swa :: .long sdx :: .ref mim :: .ref mix :: .ref mmd :: []))), (mst, .inl ((cs 4), 64, .inr (.inl gst2)))] t.heap ∧ va_D A [(m0, .inr (10, (.ref mtp :: .int sta :: .int sru :: .ref msg :: .ref mln :: .ref mcl :: .ref mcs :: .ref mrd :: .int snx :: .int swr :: .int snu :: .int ste :: .int sma :: .int sde :: .int sli :: .ref mop :: .int sod :: .ref mst :: .int sto2 :: .ref mwd :: .ref msd :: .int sx_ :: .ref mws :: .int sun :: .ref mfr :: .ref mqu :: .ref miw :: .int sfi :: .int swa :: .long sdx :: .ref mim :: .ref mix :: .ref mmd :: []))), (mst, .inl ((cs 4), 64, .inr (.inl gst2)))]) A) (by decide) (Nat.le_of_ble_eq_true rfl) ?_
  intro p e s m below meth c ls A H hHe hx hb hr hml hown hts hlocks hnm hP hK hD hA hS hN hR hX hXs hl
  have hD : va_D A [(m0, .inr (10, (.ref mtp :: .int sta :: .int sru :: .ref msg :: .ref mln :: .ref mcl :: .ref mcs :: .ref mrd :: .int snx :: .int swr :: .int snu :: .int ste :: .int sma :: .int sde :: .int sli :: .ref mop :: .int sod :: .ref mst :: .int sto :: .ref mwd :: .ref msd :: .int sx_ :: .ref mws :: .int sun :: .ref mfr :: .ref mqu :: .ref miw :: .int sfi :: .int swa :: .long sdx :: .ref mim :: .ref mix :: .ref mmd :: []))), (mst, .inl ((cs 4), 64, .inr (.inl gst)))] := hD
  obtain ⟨locs, hlc⟩ : ∃ z : List Loc, z = [] := ⟨_, rfl⟩
  rw [← hlc] at hS ⊢
  have hown : s.vm.findClass "WrongHoleModel" = some m.cls := hown
  have hT : ∀ w ∈ TB, w.before ([.ref m0, .long y1] : List Value).toArray s = true := fun w h => hts w (List.mem_cons_of_mem _ h)
  have hl : lv_has ls 3 [(0, .ref m0), (1, .long y1)] := hl
  have hP : va_P D vwCl [(m0, .inr (10, (.ref mtp :: .int sta :: .int sru :: .ref msg :: .ref mln :: .ref mcl :: .ref mcs :: .ref mrd :: .int snx :: .int swr :: .int snu :: .int ste :: .int sma :: .int sde :: .int sli :: .ref mop :: .int sod :: .ref mst :: .int sto :: .ref mwd :: .ref msd :: .int sx_ :: .ref mws :: .int sun :: .ref mfr :: .ref mqu :: .ref miw :: .int sfi :: .int swa :: .long sdx :: .ref mim :: .ref mix :: .ref mmd :: []))), (mst, .inl ((cs 4), 64, .inr (.inl gst)))] H := hP
  refine lv_aload_n hx hb dX12_push_0 rfl (lv_at hl 0 rfl) ?_
  refine va_get (D := D) (ci := 10) (v := .ref mst) (C := "WrongHoleModel") (T := TX12) (N := 33) hx hb hts (iq_RX12 _) hown hK hP 0 rfl rfl 17 (by decide) (hT _ qq_5_169) (fun _ h9 => h9) rfl dX12_push_1 ?_
  refine lv_aload_n hx hb dX12_push_4 rfl (lv_at hl 0 rfl) ?_
  refine va_get (D := D) (ci := 10) (v := .int sto) (C := "WrongHoleModel") (T := TX12) (N := 33) hx hb hts (iq_RX12 _) hown hK hP 0 rfl rfl 18 (by decide) (hT _ qq_5_170) (fun _ h9 => h9) rfl dX12_push_5 ?_
  refine lv_lload_n hx hb dX12_push_8 rfl (lv_at hl 1 rfl) ?_
  have hi_1 : vp_in sto 64 := Rg.in r_sto (by decide)
  refine va_last hx hb hK hP hD hS 1 4 rfl rfl hi_1 dX12_push_9 (fun H locs hP hD hS => ?_)
  obtain ⟨g_2, hP, hD⟩ : ∃ g_2 : Nat → Int64, va_P D vwCl [(m0, .inr (10, (.ref mtp :: .int sta :: .int sru :: .ref msg :: .ref mln :: .ref mcl :: .ref mcs :: .ref mrd :: .int snx :: .int swr :: .int snu :: .int ste :: .int sma :: .int sde :: .int sli :: .ref mop :: .int sod :: .ref mst :: .int sto :: .ref mwd :: .ref msd :: .int sx_ :: .ref mws :: .int sun :: .ref mfr :: .ref mqu :: .ref miw :: .int sfi :: .int swa :: .long sdx :: .ref mim :: .ref mix :: .ref mmd :: []))), (mst, .inl ((cs 4), 64, .inr (.inl g_2)))] H ∧ va_D A [(m0, .inr (10, (.ref mtp :: .int sta :: .int sru :: .ref msg :: .ref mln :: .ref mcl :: .ref mcs :: .ref mrd :: .int snx :: .int swr :: .int snu :: .int ste :: .int sma :: .int sde :: .int sli :: .ref mop :: .int sod :: .ref mst :: .int sto :: .ref mwd :: .ref msd :: .int sx_ :: .ref mws :: .int sun :: .ref mfr :: .ref mqu :: .ref miw :: .int sfi :: .int swa :: .long sdx :: .ref mim :: .ref mix :: .ref mmd :: []))), (mst, .inl ((cs 4), 64, .inr (.inl g_2)))] := ⟨_, hP, hD⟩
  refine lv_aload_n hx hb dX12_push_10 rfl (lv_at hl 0 rfl) ?_
  refine lv_dup hx hb dX12_push_11 rfl ?_
  refine va_get (D := D) (ci := 10) (v := .int sto) (C := "WrongHoleModel") (T := TX12) (N := 33) hx hb hts (iq_RX12 _) hown hK hP 0 rfl rfl 18 (by decide) (hT _ qq_5_170) (fun _ h9 => h9) rfl dX12_push_12 ?_
  refine lv_iconst (v := 1) hx hb dX12_push_15 (by decide) ?_
  refine lv_iadd hx hb dX12_push_16 ?_
  refine lv_topi (fun x_3 e_4 => ?_)
  have r_5 : Rg 1 64 x_3 := Rg.add e_4 r_sto (Rg.c (c := 1) (k := 1) rfl) (by decide)
  refine va_put (D := D) (ci := 10) (v := .int x_3) (ty := .int) (C := "WrongHoleModel") (T := TX12) (N := 33) hx hb hts (iq_RX12 _) tyX12 tyX12_ok nmX12 hown hK hP hD hS 0 rfl rfl 18 (by decide) (hT _ qq_5_170) (fun _ h9 => h9) rfl (by decide +kernel) rfl rfl (Nat.le_of_ble_eq_true rfl) dX12_push_17 (fun H locs hP hD hS => ?_)
  have hP : va_P D vwCl [(m0, .inr (10, (.ref mtp :: .int sta :: .int sru :: .ref msg :: .ref mln :: .ref mcl :: .ref mcs :: .ref mrd :: .int snx :: .int swr :: .int snu :: .int ste :: .int sma :: .int sde :: .int sli :: .ref mop :: .int sod :: .ref mst :: .int x_3 :: .ref mwd :: .ref msd :: .int sx_ :: .ref mws :: .int sun :: .ref mfr :: .ref mqu :: .ref miw :: .int sfi :: .int swa :: .long sdx :: .ref mim :: .ref mix :: .ref mmd :: []))), (mst, .inl ((cs 4), 64, .inr (.inl g_2)))] H := hP
  have hD : va_D A [(m0, .inr (10, (.ref mtp :: .int sta :: .int sru :: .ref msg :: .ref mln :: .ref mcl :: .ref mcs :: .ref mrd :: .int snx :: .int swr :: .int snu :: .int ste :: .int sma :: .int sde :: .int sli :: .ref mop :: .int sod :: .ref mst :: .int x_3 :: .ref mwd :: .ref msd :: .int sx_ :: .ref mws :: .int sun :: .ref mfr :: .ref mqu :: .ref miw :: .int sfi :: .int swa :: .long sdx :: .ref mim :: .ref mix :: .ref mmd :: []))), (mst, .inl ((cs 4), 64, .inr (.inl g_2)))] := hD
  refine W.widen (k := 0) (n := 0) (Nat.le_of_ble_eq_true rfl) (Nat.le_of_ble_eq_true rfl) ?_
  have hP9 := hP.sub (ws' := [(m0, .inr (10, (.ref mtp :: .int sta :: .int sru :: .ref msg :: .ref mln :: .ref mcl :: .ref mcs :: .ref mrd :: .int snx :: .int swr :: .int snu :: .int ste :: .int sma :: .int sde :: .int sli :: .ref mop :: .int sod :: .ref mst :: .int x_3 :: .ref mwd :: .ref msd :: .int sx_ :: .ref mws :: .int sun :: .ref mfr :: .ref mqu :: .ref miw :: .int sfi :: .int swa :: .long sdx :: .ref mim :: .ref mix :: .ref mmd :: []))), (mst, .inl ((cs 4), 64, .inr (.inl g_2)))]) [0, 1] rfl
  have hD9 := hD.sub (ws' := [(m0, .inr (10, (.ref mtp :: .int sta :: .int sru :: .ref msg :: .ref mln :: .ref mcl :: .ref mcs :: .ref mrd :: .int snx :: .int swr :: .int snu :: .int ste :: .int sma :: .int sde :: .int sli :: .ref mop :: .int sod :: .ref mst :: .int x_3 :: .ref mwd :: .ref msd :: .int sx_ :: .ref mws :: .int sun :: .ref mfr :: .ref mqu :: .ref miw :: .int sfi :: .int swa :: .long sdx :: .ref mim :: .ref mix :: .ref mmd :: []))), (mst, .inl ((cs 4), 64, .inr (.inl g_2)))]) [0, 1] (by decide) rfl
  exact W.vret hx hb hr (fun t9 ht9 hW9 => ⟨⟨(), rfl, trivial, ⟨x_3, g_2, e_4, by rw [ht9]; exact hP9, hD9⟩⟩, hS.F ht9⟩) hS.2.2 dX12_push_20
theorem dX12_pop_0 : decode cX12_pop 0 = .ok (.aload_n 0, 1) := by decide +kernel
theorem dX12_pop_1 : decode cX12_pop 1 = .ok (.dup, 1) := by decide +kernel
theorem dX12_pop_2 : decode cX12_pop 2 = .ok (.getfield 304, 3) := by decide +kernel
theorem dX12_pop_5 : decode cX12_pop 5 = .ok (.iconst 1, 1) := by decide +kernel
theorem dX12_pop_6 : decode cX12_pop 6 = .ok (.isub, 1) := by decide +kernel
theorem dX12_pop_7 : decode cX12_pop 7 = .ok (.putfield 304, 3) := by decide +kernel
theorem dX12_pop_10 : decode cX12_pop 10 = .ok (.aload_n 0, 1) := by decide +kernel
theorem dX12_pop_11 : decode cX12_pop 11 = .ok (.getfield 32, 3) := by decide +kernel
theorem dX12_pop_14 : decode cX12_pop 14 = .ok (.aload_n 0, 1) := by decide +kernel
theorem dX12_pop_15 : decode cX12_pop 15 = .ok (.getfield 304, 3) := by decide +kernel
theorem dX12_pop_18 : decode cX12_pop 18 = .ok (.laload, 1) := by decide +kernel
theorem dX12_pop_19 : decode cX12_pop 19 = .ok (.lreturn, 1) := by decide +kernel
set_option maxHeartbeats 4000000 in
set_option maxRecDepth 100000 in
theorem c_M_pop (l : Launch) (D : va_G) (cs : Nat → ClassId) (X : XX) (sz : Nat) (m0 : Nat) (mtp : Nat) (sta : Int32) (sru : Int32) (msg : Nat) (mln : Nat) (mcl : Nat) (mcs : Nat) (mrd : Nat) (snx : Int32) (swr : Int32) (snu : Int32) (ste : Int32) (sma : Int32) (sde : Int32) (sli : Int32) (mop : Nat) (sod : Int32) (mst : Nat) (sto : Int32) (mwd : Nat) (msd : Nat) (sx_ : Int32) (mws : Nat) (sun : Int32) (mfr : Nat) (mqu : Nat) (miw : Nat) (sfi : Int32) (swa : Int32) (sdx : Int64) (mim : Nat) (mix : Nat) (mmd : Nat) (gst : Nat → Int64) (r_sto : Rg 1 64 sto) : Met l yX12_pop (Cond.code yX12_pop cX12_pop 1 (some .long) :: TB) (RM 0 0 0) (va_Pc [.ref m0] (PRE D cs X [(m0, .inr (10, (.ref mtp :: .int sta :: .int sru :: .ref msg :: .ref mln :: .ref mcl :: .ref mcs :: .ref mrd :: .int snx :: .int swr :: .int snu :: .int ste :: .int sma :: .int sde :: .int sli :: .ref mop :: .int sod :: .ref mst :: .int sto :: .ref mwd :: .ref msd :: .int sx_ :: .ref mws :: .int sun :: .ref mfr :: .ref mqu :: .ref miw :: .int sfi :: .int swa :: .long sdx :: .ref mim :: .ref mix :: .ref mmd :: []))), (mst, .inl ((cs 4), 64, .inr (.inl gst)))] [] sz)) (va_Ql (S := Unit) (fun _ _ => True) (fun _ t => ∃ (sto2 : Int32), (sto2 = sto - 1) ∧ va_P D vwCl [(m0, .inr (10, (.ref mtp :: .int sta :: .int sru :: .ref msg :: .ref mln :: .ref mcl :: .ref mcs :: .ref mrd :: .int snx :: .int swr :: .int snu :: .int ste :: .int sma :: .int sde :: .int sli :: .ref mop :: .int sod :: .ref mst :: .int sto2 :: .ref mwd :: .ref msd :: .int sx_ :: .ref mws :: .int sun :: .ref mfr :: .ref mqu :: .ref miw :: .int sfi :: .int swa :: .long sdx :: .ref mim :: .ref mix :: .ref mmd :: []))), (mst, .inl ((cs 4), 64, .inr (.inl gst)))] t.heap ∧ va_D (va_A [(m0, .inr (10, (.ref mtp :: .int sta :: .int sru :: .ref msg :: .ref mln :: .ref mcl :: .ref mcs :: .ref mrd :: .int snx :: .int swr :: .int snu :: .int ste :: .int sma :: .int sde :: .int sli :: .ref mop :: .int sod :: .ref mst :: .int sto :: .ref mwd :: .ref msd :: .int sx_ :: .ref mws :: .int sun :: .ref mfr :: .ref mqu :: .ref miw :: .int sfi :: .int swa :: .long sdx :: .ref mim :: .ref mix :: .ref mmd :: []))), (mst, .inl ((cs 4), 64, .inr (.inl gst)))] sz) [(m0, .inr (10, (.ref mtp :: .int sta :: .int sru :: .ref msg :: .ref mln :: .ref mcl :: .ref mcs :: .ref mrd :: .int snx :: .int swr :: .int snu :: .int ste :: .int sma :: .int sde :: .int sli :: .ref mop :: .int sod :: .ref mst :: .int sto2 :: .ref mwd :: .ref msd :: .int sx_ :: .ref mws :: .int sun :: .ref mfr :: .ref mqu :: .ref miw :: .int sfi :: .int swa :: .long sdx :: .ref mim :: .ref mix :: .ref mmd :: []))), (mst, .inl ((cs 4), 64, .inr (.inl gst)))]) (va_A [(m0, .inr (10, (.ref mtp :: .int sta :: .int sru :: .ref msg :: .ref mln :: .ref mcl :: .ref mcs :: .ref mrd :: .int snx :: .int swr :: .int snu :: .int ste :: .int sma :: .int sde :: .int sli :: .ref mop :: .int sod :: .ref mst :: .int sto :: .ref mwd :: .ref msd :: .int sx_ :: .ref mws :: .int sun :: .ref mfr :: .ref mqu :: .ref miw :: .int sfi :: .int swa :: .long sdx :: .ref mim :: .ref mix :: .ref mmd :: []))), (mst, .inl ((cs 4), 64, .inr (.inl gst)))] sz)) 0 0 (va_A [(m0, .inr (10, (.ref mtp :: .int sta :: .int sru :: .ref msg :: .ref mln :: .ref mcl :: .ref mcs :: .ref mrd :: .int snx :: .int swr :: .int snu :: .int ste :: .int sma :: .int sde :: .int sli :: .ref mop :: .int sod :: .ref mst :: .int sto :: .ref mwd :: .ref msd :: .int sx_ :: .ref mws :: .int sun :: .ref mfr :: .ref mqu :: .ref miw :: .int sfi :: .int swa :: .long sdx :: .ref mim :: .ref mix :: .ref mmd :: []))), (mst, .inl ((cs 4), 64, .inr (.inl gst)))] sz) := by
  refine MET (y := yX12_pop) (cc := cX12_pop) (maxL := 1) (ret := (some .long)) (d := 0) (mc := 0) (ms := 0) (D := D) (cs := cs) (X := X) (ws := [(m0, .inr (10, (.ref mtp :: .int sta :: .int sru :: .ref msg :: .ref mln :: .ref mcl :: .ref mcs :: .ref mrd :: .int snx :: .int swr :: .int snu :: .int ste :: .int sma :: .int sde :: .int sli :: .ref mop :: .int sod :: .ref mst :: .int sto :: .ref mwd :: .ref msd :: .int sx_ :: .ref mws :: .int sun :: .ref mfr :: .ref mqu :: .ref miw :: .int sfi :: .int swa :: .long sdx :: .ref mim :: .ref mix :: .ref mmd :: []))), (mst, .inl ((cs 4), 64, .inr (.inl gst)))]) (wo := []) (sz := sz) (av := [.ref m0]) (Qc := fun A => va_Ql (S := Unit) (fun _ _ => True) (fun _ t => ∃ (sto2 : Int32), (sto2 = sto - 1) ∧ va_P D vwCl [(m0, .inr (10, (.ref mtp :: .int sta :: .int sru :: .ref msg :: .ref mln :: .ref mcl :: .ref mcs :: .ref mrd :: .int snx :: .int swr :: .int snu :: .int ste :: .int sma :: .int sde :: .int sli :: .ref mop :: .int sod :: .ref mst :: .int sto2 :: .ref mwd :: .ref msd :: .int sx_ :: .ref mws :: .int sun :: .ref mfr :: .ref mqu :: .ref miw :: .int sfi :: .int swa :: .long sdx :: .ref mim :: .ref mix :: .ref mmd :: []))), (mst, .inl ((cs 4), 64, .inr (.inl gst)))] t.heap ∧ va_D A [(m0, .inr (10, (.ref mtp :: .int sta :: .int sru :: .ref msg :: .ref mln :: .ref mcl :: .ref mcs :: .ref mrd :: .int snx :: .int swr :: .int snu :: .int ste :: .int sma :: .int sde :: .int sli :: .ref mop :: .int sod :: .ref mst :: .int sto2 :: .ref mwd :: .ref msd :: .int sx_ :: .ref mws :: .int sun :: .ref mfr :: .ref mqu :: .ref miw :: .int sfi :: .int swa :: .long sdx :: .ref mim :: .ref mix :: .ref mmd :: []))), (mst, .inl ((cs 4), 64, .inr (.inl gst)))]) A) (by decide) (Nat.le_of_ble_eq_true rfl) ?_
  intro p e s m below meth c ls A H hHe hx hb hr hml hown hts hlocks hnm hP hK hD hA hS hN hR hX hXs hl
  have hD : va_D A [(m0, .inr (10, (.ref mtp :: .int sta :: .int sru :: .ref msg :: .ref mln :: .ref mcl :: .ref mcs :: .ref mrd :: .int snx :: .int swr :: .int snu :: .int ste :: .int sma :: .int sde :: .int sli :: .ref mop :: .int sod :: .ref mst :: .int sto :: .ref mwd :: .ref msd :: .int sx_ :: .ref mws :: .int sun :: .ref mfr :: .ref mqu :: .ref miw :: .int sfi :: .int swa :: .long sdx :: .ref mim :: .ref mix :: .ref mmd :: []))), (mst, .inl ((cs 4), 64, .inr (.inl gst)))] := hD
  obtain ⟨locs, hlc⟩ : ∃ z : List Loc, z = [] := ⟨_, rfl⟩
  rw [← hlc] at hS ⊢
  have hown : s.vm.findClass "WrongHoleModel" = some m.cls := hown
  have hT : ∀ w ∈ TB, w.before ([.ref m0] : List Value).toArray s = true := fun w h => hts w (List.mem_cons_of_mem _ h)
  have hl : lv_has ls 1 [(0, .ref m0)] := hl
  have hP : va_P D vwCl [(m0, .inr (10, (.ref mtp :: .int sta :: .int sru :: .ref msg :: .ref mln :: .ref mcl :: .ref mcs :: .ref mrd :: .int snx :: .int swr :: .int snu :: .int ste :: .int sma :: .int sde :: .int sli :: .ref mop :: .int sod :: .ref mst :: .int sto :: .ref mwd :: .ref msd :: .int sx_ :: .ref mws :: .int sun :: .ref mfr :: .ref mqu :: .ref miw :: .int sfi :: .int swa :: .long sdx :: .ref mim :: .ref mix :: .ref mmd :: []))), (mst, .inl ((cs 4), 64, .inr (.inl gst)))] H := hP
  refine lv_aload_n hx hb dX12_pop_0 rfl (lv_at hl 0 rfl) ?_
  refine lv_dup hx hb dX12_pop_1 rfl ?_
  refine va_get (D := D) (ci := 10) (v := .int sto) (C := "WrongHoleModel") (T := TX12) (N := 33) hx hb hts (iq_RX12 _) hown hK hP 0 rfl rfl 18 (by decide) (hT _ qq_5_170) (fun _ h9 => h9) rfl dX12_pop_2 ?_
  refine lv_iconst (v := 1) hx hb dX12_pop_5 (by decide) ?_
  refine lv_isub hx hb dX12_pop_6 ?_
  refine lv_topi (fun x_1 e_2 => ?_)
  have r_3 : Rg 0 63 x_1 := Rg.sub e_2 r_sto (Rg.c (c := 1) (k := 1) rfl) (by decide)
  refine va_put (D := D) (ci := 10) (v := .int x_1) (ty := .int) (C := "WrongHoleModel") (T := TX12) (N := 33) hx hb hts (iq_RX12 _) tyX12 tyX12_ok nmX12 hown hK hP hD hS 0 rfl rfl 18 (by decide) (hT _ qq_5_170) (fun _ h9 => h9) rfl (by decide +kernel) rfl rfl (Nat.le_of_ble_eq_true rfl) dX12_pop_7 (fun H locs hP hD hS => ?_)
  have hP : va_P D vwCl [(m0, .inr (10, (.ref mtp :: .int sta :: .int sru :: .ref msg :: .ref mln :: .ref mcl :: .ref mcs :: .ref mrd :: .int snx :: .int swr :: .int snu :: .int ste :: .int sma :: .int sde :: .int sli :: .ref mop :: .int sod :: .ref mst :: .int x_1 :: .ref mwd :: .ref msd :: .int sx_ :: .ref mws :: .int sun :: .ref mfr :: .ref mqu :: .ref miw :: .int sfi :: .int swa :: .long sdx :: .ref mim :: .ref mix :: .ref mmd :: []))), (mst, .inl ((cs 4), 64, .inr (.inl gst)))] H := hP
  have hD : va_D A [(m0, .inr (10, (.ref mtp :: .int sta :: .int sru :: .ref msg :: .ref mln :: .ref mcl :: .ref mcs :: .ref mrd :: .int snx :: .int swr :: .int snu :: .int ste :: .int sma :: .int sde :: .int sli :: .ref mop :: .int sod :: .ref mst :: .int x_1 :: .ref mwd :: .ref msd :: .int sx_ :: .ref mws :: .int sun :: .ref mfr :: .ref mqu :: .ref miw :: .int sfi :: .int swa :: .long sdx :: .ref mim :: .ref mix :: .ref mmd :: []))), (mst, .inl ((cs 4), 64, .inr (.inl gst)))] := hD
  refine lv_aload_n hx hb dX12_pop_10 rfl (lv_at hl 0 rfl) ?_
  refine va_get (D := D) (ci := 10) (v := .ref mst) (C := "WrongHoleModel") (T := TX12) (N := 33) hx hb hts (iq_RX12 _) hown hK hP 0 rfl rfl 17 (by decide) (hT _ qq_5_169) (fun _ h9 => h9) rfl dX12_pop_11 ?_
  refine lv_aload_n hx hb dX12_pop_14 rfl (lv_at hl 0 rfl) ?_
  refine va_get (D := D) (ci := 10) (v := .int x_1) (C := "WrongHoleModel") (T := TX12) (N := 33) hx hb hts (iq_RX12 _) hown hK hP 0 rfl rfl 18 (by decide) (hT _ qq_5_170) (fun _ h9 => h9) rfl dX12_pop_15 ?_
  have hi_4 : vp_in x_1 64 := Rg.in r_3 (by decide)
  refine va_lald hx hb hK hP 1 4 rfl rfl hi_4 dX12_pop_18 ?_
  refine lv_topl (fun x_5 e_6 => ?_)
  refine W.widen (k := 0) (n := 0) (Nat.le_of_ble_eq_true rfl) (Nat.le_of_ble_eq_true rfl) ?_
  have hP9 := hP.sub (ws' := [(m0, .inr (10, (.ref mtp :: .int sta :: .int sru :: .ref msg :: .ref mln :: .ref mcl :: .ref mcs :: .ref mrd :: .int snx :: .int swr :: .int snu :: .int ste :: .int sma :: .int sde :: .int sli :: .ref mop :: .int sod :: .ref mst :: .int x_1 :: .ref mwd :: .ref msd :: .int sx_ :: .ref mws :: .int sun :: .ref mfr :: .ref mqu :: .ref miw :: .int sfi :: .int swa :: .long sdx :: .ref mim :: .ref mix :: .ref mmd :: []))), (mst, .inl ((cs 4), 64, .inr (.inl gst)))]) [0, 1] rfl
  have hD9 := hD.sub (ws' := [(m0, .inr (10, (.ref mtp :: .int sta :: .int sru :: .ref msg :: .ref mln :: .ref mcl :: .ref mcs :: .ref mrd :: .int snx :: .int swr :: .int snu :: .int ste :: .int sma :: .int sde :: .int sli :: .ref mop :: .int sod :: .ref mst :: .int x_1 :: .ref mwd :: .ref msd :: .int sx_ :: .ref mws :: .int sun :: .ref mfr :: .ref mqu :: .ref miw :: .int sfi :: .int swa :: .long sdx :: .ref mim :: .ref mix :: .ref mmd :: []))), (mst, .inl ((cs 4), 64, .inr (.inl gst)))]) [0, 1] (by decide) rfl
  exact W.lret (v := x_5) hx hb hr (fun t9 ht9 hW9 => ⟨⟨_, (), rfl, trivial, ⟨x_1, e_2, by rw [ht9]; exact hP9, hD9⟩⟩, hS.F ht9⟩) hS.2.2 dX12_pop_19
theorem dX12_one_0 : decode cX12_one 0 = .ok (.iload_n 0, 1) := by decide +kernel
theorem dX12_one_1 : decode cX12_one 1 = .ok (.tableswitch 171 2 14 #[67, 71, 75, 79, 107, 119, 131, 143, 155, 171, 167, 171, 93], 67) := by decide +kernel
theorem sw_2_14 (v : Int32) : (Int32.toInt v < 2 ∨ 14 < Int32.toInt v) ∨ v = 2 ∨ v = 3 ∨ v = 4 ∨ v = 5 ∨ v = 6 ∨ v = 7 ∨ v = 8 ∨ v = 9 ∨ v = 10 ∨ v = 11 ∨ v = 12 ∨ v = 13 ∨ v = 14 := by
  simp only [← Int32.toInt_inj]
  simp (config := { decide := true }) only [show Int32.toInt 2 = 2 from rfl, show Int32.toInt 3 = 3 from rfl, show Int32.toInt 4 = 4 from rfl, show Int32.toInt 5 = 5 from rfl, show Int32.toInt 6 = 6 from rfl, show Int32.toInt 7 = 7 from rfl, show Int32.toInt 8 = 8 from rfl, show Int32.toInt 9 = 9 from rfl, show Int32.toInt 10 = 10 from rfl, show Int32.toInt 11 = 11 from rfl, show Int32.toInt 12 = 12 from rfl, show Int32.toInt 13 = 13 from rfl, show Int32.toInt 14 = 14 from rfl]
  omega
theorem dX12_one_172 : decode cX12_one 172 = .ok (.lload_n 1, 1) := by decide +kernel
theorem dX12_one_173 : decode cX12_one 173 = .ok (.lload_n 3, 1) := by decide +kernel
theorem dX12_one_174 : decode cX12_one 174 = .ok (.lor, 1) := by decide +kernel
theorem dX12_one_175 : decode cX12_one 175 = .ok (.lreturn, 1) := by decide +kernel
theorem dX12_one_68 : decode cX12_one 68 = .ok (.lload_n 1, 1) := by decide +kernel
theorem dX12_one_69 : decode cX12_one 69 = .ok (.lload_n 3, 1) := by decide +kernel
theorem dX12_one_70 : decode cX12_one 70 = .ok (.ladd, 1) := by decide +kernel
theorem dX12_one_71 : decode cX12_one 71 = .ok (.lreturn, 1) := by decide +kernel
theorem dX12_one_72 : decode cX12_one 72 = .ok (.lload_n 1, 1) := by decide +kernel
theorem dX12_one_73 : decode cX12_one 73 = .ok (.lload_n 3, 1) := by decide +kernel
theorem dX12_one_74 : decode cX12_one 74 = .ok (.lsub, 1) := by decide +kernel
theorem dX12_one_75 : decode cX12_one 75 = .ok (.lreturn, 1) := by decide +kernel
theorem dX12_one_76 : decode cX12_one 76 = .ok (.lload_n 1, 1) := by decide +kernel
theorem dX12_one_77 : decode cX12_one 77 = .ok (.lload_n 3, 1) := by decide +kernel
theorem dX12_one_78 : decode cX12_one 78 = .ok (.lmul, 1) := by decide +kernel
theorem dX12_one_79 : decode cX12_one 79 = .ok (.lreturn, 1) := by decide +kernel
theorem dX12_one_80 : decode cX12_one 80 = .ok (.lload_n 3, 1) := by decide +kernel
theorem dX12_one_81 : decode cX12_one 81 = .ok (.lconst 0, 1) := by decide +kernel
theorem dX12_one_82 : decode cX12_one 82 = .ok (.lcmp, 1) := by decide +kernel
theorem dX12_one_83 : decode cX12_one 83 = .ok (.ifCond .ne 7, 3) := by decide +kernel
theorem dX12_one_90 : decode cX12_one 90 = .ok (.lload_n 1, 1) := by decide +kernel
theorem dX12_one_91 : decode cX12_one 91 = .ok (.lload_n 3, 1) := by decide +kernel
theorem dX12_one_92 : decode cX12_one 92 = .ok (.ldiv, 1) := by decide +kernel
theorem dX12_one_93 : decode cX12_one 93 = .ok (.lreturn, 1) := by decide +kernel
theorem dX12_one_86 : decode cX12_one 86 = .ok (.lconst 0, 1) := by decide +kernel
theorem dX12_one_87 : decode cX12_one 87 = .ok (.goto 6, 3) := by decide +kernel
theorem dX12_one_108 : decode cX12_one 108 = .ok (.lload_n 1, 1) := by decide +kernel
theorem dX12_one_109 : decode cX12_one 109 = .ok (.lload_n 3, 1) := by decide +kernel
theorem dX12_one_110 : decode cX12_one 110 = .ok (.lcmp, 1) := by decide +kernel
theorem dX12_one_111 : decode cX12_one 111 = .ok (.ifCond .ge 7, 3) := by decide +kernel
theorem dX12_one_118 : decode cX12_one 118 = .ok (.lconst 0, 1) := by decide +kernel
theorem dX12_one_119 : decode cX12_one 119 = .ok (.lreturn, 1) := by decide +kernel
theorem dX12_one_114 : decode cX12_one 114 = .ok (.lconst 1, 1) := by decide +kernel
theorem dX12_one_115 : decode cX12_one 115 = .ok (.goto 4, 3) := by decide +kernel
theorem dX12_one_120 : decode cX12_one 120 = .ok (.lload_n 1, 1) := by decide +kernel
theorem dX12_one_121 : decode cX12_one 121 = .ok (.lload_n 3, 1) := by decide +kernel
theorem dX12_one_122 : decode cX12_one 122 = .ok (.lcmp, 1) := by decide +kernel
theorem dX12_one_123 : decode cX12_one 123 = .ok (.ifCond .gt 7, 3) := by decide +kernel
theorem dX12_one_130 : decode cX12_one 130 = .ok (.lconst 0, 1) := by decide +kernel
theorem dX12_one_131 : decode cX12_one 131 = .ok (.lreturn, 1) := by decide +kernel
theorem dX12_one_126 : decode cX12_one 126 = .ok (.lconst 1, 1) := by decide +kernel
theorem dX12_one_127 : decode cX12_one 127 = .ok (.goto 4, 3) := by decide +kernel
theorem dX12_one_132 : decode cX12_one 132 = .ok (.lload_n 1, 1) := by decide +kernel
theorem dX12_one_133 : decode cX12_one 133 = .ok (.lload_n 3, 1) := by decide +kernel
theorem dX12_one_134 : decode cX12_one 134 = .ok (.lcmp, 1) := by decide +kernel
theorem dX12_one_135 : decode cX12_one 135 = .ok (.ifCond .ne 7, 3) := by decide +kernel
theorem dX12_one_142 : decode cX12_one 142 = .ok (.lconst 0, 1) := by decide +kernel
theorem dX12_one_143 : decode cX12_one 143 = .ok (.lreturn, 1) := by decide +kernel
theorem dX12_one_138 : decode cX12_one 138 = .ok (.lconst 1, 1) := by decide +kernel
theorem dX12_one_139 : decode cX12_one 139 = .ok (.goto 4, 3) := by decide +kernel
theorem dX12_one_144 : decode cX12_one 144 = .ok (.lload_n 1, 1) := by decide +kernel
theorem dX12_one_145 : decode cX12_one 145 = .ok (.lload_n 3, 1) := by decide +kernel
theorem dX12_one_146 : decode cX12_one 146 = .ok (.lcmp, 1) := by decide +kernel
theorem dX12_one_147 : decode cX12_one 147 = .ok (.ifCond .lt 7, 3) := by decide +kernel
theorem dX12_one_154 : decode cX12_one 154 = .ok (.lconst 0, 1) := by decide +kernel
theorem dX12_one_155 : decode cX12_one 155 = .ok (.lreturn, 1) := by decide +kernel
theorem dX12_one_150 : decode cX12_one 150 = .ok (.lconst 1, 1) := by decide +kernel
theorem dX12_one_151 : decode cX12_one 151 = .ok (.goto 4, 3) := by decide +kernel
theorem dX12_one_156 : decode cX12_one 156 = .ok (.lload_n 1, 1) := by decide +kernel
theorem dX12_one_157 : decode cX12_one 157 = .ok (.lload_n 3, 1) := by decide +kernel
theorem dX12_one_158 : decode cX12_one 158 = .ok (.lcmp, 1) := by decide +kernel
theorem dX12_one_159 : decode cX12_one 159 = .ok (.ifCond .le 7, 3) := by decide +kernel
theorem dX12_one_166 : decode cX12_one 166 = .ok (.lconst 0, 1) := by decide +kernel
theorem dX12_one_167 : decode cX12_one 167 = .ok (.lreturn, 1) := by decide +kernel
theorem dX12_one_162 : decode cX12_one 162 = .ok (.lconst 1, 1) := by decide +kernel
theorem dX12_one_163 : decode cX12_one 163 = .ok (.goto 4, 3) := by decide +kernel
theorem dX12_one_168 : decode cX12_one 168 = .ok (.lload_n 1, 1) := by decide +kernel
theorem dX12_one_169 : decode cX12_one 169 = .ok (.lload_n 3, 1) := by decide +kernel
theorem dX12_one_170 : decode cX12_one 170 = .ok (.land, 1) := by decide +kernel
theorem dX12_one_171 : decode cX12_one 171 = .ok (.lreturn, 1) := by decide +kernel
theorem dX12_one_94 : decode cX12_one 94 = .ok (.lload_n 3, 1) := by decide +kernel
theorem dX12_one_95 : decode cX12_one 95 = .ok (.lconst 0, 1) := by decide +kernel
theorem dX12_one_96 : decode cX12_one 96 = .ok (.lcmp, 1) := by decide +kernel
theorem dX12_one_97 : decode cX12_one 97 = .ok (.ifCond .ne 7, 3) := by decide +kernel
theorem dX12_one_104 : decode cX12_one 104 = .ok (.lload_n 1, 1) := by decide +kernel
theorem dX12_one_105 : decode cX12_one 105 = .ok (.lload_n 3, 1) := by decide +kernel
theorem dX12_one_106 : decode cX12_one 106 = .ok (.lrem, 1) := by decide +kernel
theorem dX12_one_107 : decode cX12_one 107 = .ok (.lreturn, 1) := by decide +kernel
theorem dX12_one_100 : decode cX12_one 100 = .ok (.lconst 0, 1) := by decide +kernel
theorem dX12_one_101 : decode cX12_one 101 = .ok (.goto 6, 3) := by decide +kernel
set_option maxHeartbeats 4000000 in
set_option maxRecDepth 100000 in
theorem c_M_one (l : Launch) (D : va_G) (cs : Nat → ClassId) (a : Int32) (y1 : Int64) (y2 : Int64)  : Met l yX12_one (Cond.code yX12_one cX12_one 5 (some .long) :: TB) (RM 0 0 0) (va_Pc [.int a, .long y1, .long y2] (PRR D cs [])) (QP (fun v => ∃ x : Int64, v = .long x)) 0 0 (fun _ => False) := by
  refine MER (y := yX12_one) (cc := cX12_one) (maxL := 5) (ret := (some .long)) (d := 0) (D := D) (cs := cs) (ws := []) (av := [.int a, .long y1, .long y2]) (Qc := QP (fun v => ∃ x : Int64, v = .long x)) (by decide) (Nat.le_of_ble_eq_true rfl) ?_
  intro p e s m below meth c ls H hHe hx hb hr hml hown hts hlocks hP hK hN hl
  obtain ⟨locs, hlc⟩ : ∃ z : List Loc, z = [] := ⟨_, rfl⟩
  rw [← hlc]
  have hown : s.vm.findClass "WrongHoleModel" = some m.cls := hown
  have hT : ∀ w ∈ TB, w.before ([.int a, .long y1, .long y2] : List Value).toArray s = true := fun w h => hts w (List.mem_cons_of_mem _ h)
  have hl : lv_has ls 5 [(0, .int a), (1, .long y1), (3, .long y2)] := hl
  have hP : va_P D vwCl [] H := hP
  refine lv_iload_n hx hb dX12_one_0 rfl (lv_at hl 0 rfl) ?_
  rcases sw_2_14 a with c_1 | c_1 | c_1 | c_1 | c_1 | c_1 | c_1 | c_1 | c_1 | c_1 | c_1 | c_1 | c_1 | c_1
  · refine lv_tableOut (tgt := 172) hx hb dX12_one_1 c_1 (by decide) ?_
    refine lv_lload_n hx hb dX12_one_172 rfl (lv_at hl 1 rfl) ?_
    refine lv_lload_n hx hb dX12_one_173 rfl (lv_at hl 2 rfl) ?_
    refine lv_lor hx hb dX12_one_174 ?_
    refine lv_topl (fun x_15 e_16 => ?_)
    exact W.lret (v := x_15) hx hb hr (fun t9 ht9 hW9 => ⟨⟨_, rfl, _, rfl⟩, ht9.trans hHe⟩) (fun _ h9 => by rw [hlc] at h9; exact absurd h9 List.not_mem_nil) dX12_one_175
  · refine tc_i 2 c_1 ?_
    have r_2 : Rg 2 2 a := Rg.of c_1 (Rg.c rfl)
    refine lv_tableIn (tgt := 68) hx hb dX12_one_1 (by decide) (by decide) rfl (by decide) ?_
    refine lv_lload_n hx hb dX12_one_68 rfl (lv_at hl 1 rfl) ?_
    refine lv_lload_n hx hb dX12_one_69 rfl (lv_at hl 2 rfl) ?_
    refine lv_ladd hx hb dX12_one_70 ?_
    refine lv_topl (fun x_17 e_18 => ?_)
    exact W.lret (v := x_17) hx hb hr (fun t9 ht9 hW9 => ⟨⟨_, rfl, _, rfl⟩, ht9.trans hHe⟩) (fun _ h9 => by rw [hlc] at h9; exact absurd h9 List.not_mem_nil) dX12_one_71
  · refine tc_i 3 c_1 ?_
    have r_3 : Rg 3 3 a := Rg.of c_1 (Rg.c rfl)
    refine lv_tableIn (tgt := 72) hx hb dX12_one_1 (by decide) (by decide) rfl (by decide) ?_
    refine lv_lload_n hx hb dX12_one_72 rfl (lv_at hl 1 rfl) ?_
    refine lv_lload_n hx hb dX12_one_73 rfl (lv_at hl 2 rfl) ?_
    refine lv_lsub hx hb dX12_one_74 ?_
    refine lv_topl (fun x_19 e_20 => ?_)
    exact W.lret (v := x_19) hx hb hr (fun t9 ht9 hW9 => ⟨⟨_, rfl, _, rfl⟩, ht9.trans hHe⟩) (fun _ h9 => by rw [hlc] at h9; exact absurd h9 List.not_mem_nil) dX12_one_75
  · refine tc_i 4 c_1 ?_
    have r_4 : Rg 4 4 a := Rg.of c_1 (Rg.c rfl)
    refine lv_tableIn (tgt := 76) hx hb dX12_one_1 (by decide) (by decide) rfl (by decide) ?_
    refine lv_lload_n hx hb dX12_one_76 rfl (lv_at hl 1 rfl) ?_
    refine lv_lload_n hx hb dX12_one_77 rfl (lv_at hl 2 rfl) ?_
    refine lv_lmul hx hb dX12_one_78 ?_
    refine lv_topl (fun x_21 e_22 => ?_)
    exact W.lret (v := x_21) hx hb hr (fun t9 ht9 hW9 => ⟨⟨_, rfl, _, rfl⟩, ht9.trans hHe⟩) (fun _ h9 => by rw [hlc] at h9; exact absurd h9 List.not_mem_nil) dX12_one_79
  · refine tc_i 5 c_1 ?_
    have r_5 : Rg 5 5 a := Rg.of c_1 (Rg.c rfl)
    refine lv_tableIn (tgt := 80) hx hb dX12_one_1 (by decide) (by decide) rfl (by decide) ?_
    refine lv_lload_n hx hb dX12_one_80 rfl (lv_at hl 2 rfl) ?_
    refine lv_lconst (v := 0) hx hb dX12_one_81 (by decide) ?_
    refine W.lcmp hx hb dX12_one_82 ?_
    refine lv_topi (fun x_23 e_24 => ?_)
    have r_25 : Rg (-1) 1 x_23 := Rg.of e_24 (cmp_r _ _)
    refine lv_if_ne (tgt := 90) hx hb dX12_one_83 (by decide) (fun c_26 => ?_) (fun c_26 => ?_)
    · refine lv_lload_n hx hb dX12_one_90 rfl (lv_at hl 1 rfl) ?_
      refine lv_lload_n hx hb dX12_one_91 rfl (lv_at hl 2 rfl) ?_
      refine lv_ldiv hx hb dX12_one_92 (lz_c e_24 c_26) ?_
      refine lv_topl (fun x_30 e_31 => ?_)
      exact W.lret (v := x_30) hx hb hr (fun t9 ht9 hW9 => ⟨⟨_, rfl, _, rfl⟩, ht9.trans hHe⟩) (fun _ h9 => by rw [hlc] at h9; exact absurd h9 List.not_mem_nil) dX12_one_93
    · have r_27 : Rg 0 0 x_23 := Rg.eq_l c_26 r_25 (Rg.c (c := 0) (k := 0) rfl) (by decide)
      refine lv_lconst (v := 0) hx hb dX12_one_86 (by decide) ?_
      refine lv_goto (tgt := 93) hx hb dX12_one_87 (by decide) ?_
      exact W.lret (v := 0) hx hb hr (fun t9 ht9 hW9 => ⟨⟨_, rfl, _, rfl⟩, ht9.trans hHe⟩) (fun _ h9 => by rw [hlc] at h9; exact absurd h9 List.not_mem_nil) dX12_one_93
  · refine tc_i 6 c_1 ?_
    have r_6 : Rg 6 6 a := Rg.of c_1 (Rg.c rfl)
    refine lv_tableIn (tgt := 108) hx hb dX12_one_1 (by decide) (by decide) rfl (by decide) ?_
    refine lv_lload_n hx hb dX12_one_108 rfl (lv_at hl 1 rfl) ?_
    refine lv_lload_n hx hb dX12_one_109 rfl (lv_at hl 2 rfl) ?_
    refine W.lcmp hx hb dX12_one_110 ?_
    refine lv_topi (fun x_32 e_33 => ?_)
    have r_34 : Rg (-1) 1 x_32 := Rg.of e_33 (cmp_r _ _)
    refine lv_if_ge (tgt := 118) hx hb dX12_one_111 (by decide) (fun c_35 => ?_) (fun c_35 => ?_)
    · have r_36 : Rg 0 1 x_32 := Rg.le_r c_35 (Rg.c (c := 0) (k := 0) rfl) r_34 (by decide)
      refine lv_lconst (v := 0) hx hb dX12_one_118 (by decide) ?_
      exact W.lret (v := 0) hx hb hr (fun t9 ht9 hW9 => ⟨⟨_, rfl, _, rfl⟩, ht9.trans hHe⟩) (fun _ h9 => by rw [hlc] at h9; exact absurd h9 List.not_mem_nil) dX12_one_119
    · have r_37 : Rg (-1) (-1) x_32 := Rg.lt_l (nle_lt c_35) r_34 (Rg.c (c := 0) (k := 0) rfl) (by decide)
      refine lv_lconst (v := 1) hx hb dX12_one_114 (by decide) ?_
      refine lv_goto (tgt := 119) hx hb dX12_one_115 (by decide) ?_
      exact W.lret (v := 1) hx hb hr (fun t9 ht9 hW9 => ⟨⟨_, rfl, _, rfl⟩, ht9.trans hHe⟩) (fun _ h9 => by rw [hlc] at h9; exact absurd h9 List.not_mem_nil) dX12_one_119
  · refine tc_i 7 c_1 ?_
    have r_7 : Rg 7 7 a := Rg.of c_1 (Rg.c rfl)
    refine lv_tableIn (tgt := 120) hx hb dX12_one_1 (by decide) (by decide) rfl (by decide) ?_
    refine lv_lload_n hx hb dX12_one_120 rfl (lv_at hl 1 rfl) ?_
    refine lv_lload_n hx hb dX12_one_121 rfl (lv_at hl 2 rfl) ?_
    refine W.lcmp hx hb dX12_one_122 ?_
    refine lv_topi (fun x_38 e_39 => ?_)
    have r_40 : Rg (-1) 1 x_38 := Rg.of e_39 (cmp_r _ _)
    refine lv_if_gt (tgt := 130) hx hb dX12_one_123 (by decide) (fun c_41 => ?_) (fun c_41 => ?_)
    · have r_42 : Rg 1 1 x_38 := Rg.lt_r c_41 (Rg.c (c := 0) (k := 0) rfl) r_40 (by decide)
      refine lv_lconst (v := 0) hx hb dX12_one_130 (by decide) ?_
      exact W.lret (v := 0) hx hb hr (fun t9 ht9 hW9 => ⟨⟨_, rfl, _, rfl⟩, ht9.trans hHe⟩) (fun _ h9 => by rw [hlc] at h9; exact absurd h9 List.not_mem_nil) dX12_one_131
    · have r_43 : Rg (-1) 0 x_38 := Rg.le_l (nlt_le c_41) r_40 (Rg.c (c := 0) (k := 0) rfl) (by decide)
      refine lv_lconst (v := 1) hx hb dX12_one_126 (by decide) ?_
      refine lv_goto (tgt := 131) hx hb dX12_one_127 (by decide) ?_
      exact W.lret (v := 1) hx hb hr (fun t9 ht9 hW9 => ⟨⟨_, rfl, _, rfl⟩, ht9.trans hHe⟩) (fun _ h9 => by rw [hlc] at h9; exact absurd h9 List.not_mem_nil) dX12_one_131
  · refine tc_i 8 c_1 ?_
    have r_8 : Rg 8 8 a := Rg.of c_1 (Rg.c rfl)
    refine lv_tableIn (tgt := 132) hx hb dX12_one_1 (by decide) (by decide) rfl (by decide) ?_
    refine lv_lload_n hx hb dX12_one_132 rfl (lv_at hl 1 rfl) ?_
    refine lv_lload_n hx hb dX12_one_133 rfl (lv_at hl 2 rfl) ?_
    refine W.lcmp hx hb dX12_one_134 ?_
    refine lv_topi (fun x_44 e_45 => ?_)
    have r_46 : Rg (-1) 1 x_44 := Rg.of e_45 (cmp_r _ _)
    refine lv_if_ne (tgt := 142) hx hb dX12_one_135 (by decide) (fun c_47 => ?_) (fun c_47 => ?_)
    · refine lv_lconst (v := 0) hx hb dX12_one_142 (by decide) ?_
      exact W.lret (v := 0) hx hb hr (fun t9 ht9 hW9 => ⟨⟨_, rfl, _, rfl⟩, ht9.trans hHe⟩) (fun _ h9 => by rw [hlc] at h9; exact absurd h9 List.not_mem_nil) dX12_one_143
    · have r_48 : Rg 0 0 x_44 := Rg.eq_l c_47 r_46 (Rg.c (c := 0) (k := 0) rfl) (by decide)
      refine lv_lconst (v := 1) hx hb dX12_one_138 (by decide) ?_
      refine lv_goto (tgt := 143) hx hb dX12_one_139 (by decide) ?_
      exact W.lret (v := 1) hx hb hr (fun t9 ht9 hW9 => ⟨⟨_, rfl, _, rfl⟩, ht9.trans hHe⟩) (fun _ h9 => by rw [hlc] at h9; exact absurd h9 List.not_mem_nil) dX12_one_143
  · refine tc_i 9 c_1 ?_
    have r_9 : Rg 9 9 a := Rg.of c_1 (Rg.c rfl)
    refine lv_tableIn (tgt := 144) hx hb dX12_one_1 (by decide) (by decide) rfl (by decide) ?_
    refine lv_lload_n hx hb dX12_one_144 rfl (lv_at hl 1 rfl) ?_
    refine lv_lload_n hx hb dX12_one_145 rfl (lv_at hl 2 rfl) ?_
    refine W.lcmp hx hb dX12_one_146 ?_
    refine lv_topi (fun x_49 e_50 => ?_)
    have r_51 : Rg (-1) 1 x_49 := Rg.of e_50 (cmp_r _ _)
    refine lv_if_lt (tgt := 154) hx hb dX12_one_147 (by decide) (fun c_52 => ?_) (fun c_52 => ?_)
    · have r_53 : Rg (-1) (-1) x_49 := Rg.lt_l c_52 r_51 (Rg.c (c := 0) (k := 0) rfl) (by decide)
      refine lv_lconst (v := 0) hx hb dX12_one_154 (by decide) ?_
      exact W.lret (v := 0) hx hb hr (fun t9 ht9 hW9 => ⟨⟨_, rfl, _, rfl⟩, ht9.trans hHe⟩) (fun _ h9 => by rw [hlc] at h9; exact absurd h9 List.not_mem_nil) dX12_one_155
    · have r_54 : Rg 0 1 x_49 := Rg.le_r (nlt_le c_52) (Rg.c (c := 0) (k := 0) rfl) r_51 (by decide)
      refine lv_lconst (v := 1) hx hb dX12_one_150 (by decide) ?_
      refine lv_goto (tgt := 155) hx hb dX12_one_151 (by decide) ?_
      exact W.lret (v := 1) hx hb hr (fun t9 ht9 hW9 => ⟨⟨_, rfl, _, rfl⟩, ht9.trans hHe⟩) (fun _ h9 => by rw [hlc] at h9; exact absurd h9 List.not_mem_nil) dX12_one_155
  · refine tc_i 10 c_1 ?_
    have r_10 : Rg 10 10 a := Rg.of c_1 (Rg.c rfl)
    refine lv_tableIn (tgt := 156) hx hb dX12_one_1 (by decide) (by decide) rfl (by decide) ?_
    refine lv_lload_n hx hb dX12_one_156 rfl (lv_at hl 1 rfl) ?_
    refine lv_lload_n hx hb dX12_one_157 rfl (lv_at hl 2 rfl) ?_
    refine W.lcmp hx hb dX12_one_158 ?_
    refine lv_topi (fun x_55 e_56 => ?_)
    have r_57 : Rg (-1) 1 x_55 := Rg.of e_56 (cmp_r _ _)
    refine lv_if_le (tgt := 166) hx hb dX12_one_159 (by decide) (fun c_58 => ?_) (fun c_58 => ?_)
    · have r_59 : Rg (-1) 0 x_55 := Rg.le_l c_58 r_57 (Rg.c (c := 0) (k := 0) rfl) (by decide)
      refine lv_lconst (v := 0) hx hb dX12_one_166 (by decide) ?_
      exact W.lret (v := 0) hx hb hr (fun t9 ht9 hW9 => ⟨⟨_, rfl, _, rfl⟩, ht9.trans hHe⟩) (fun _ h9 => by rw [hlc] at h9; exact absurd h9 List.not_mem_nil) dX12_one_167
    · have r_60 : Rg 1 1 x_55 := Rg.lt_r (nle_lt c_58) (Rg.c (c := 0) (k := 0) rfl) r_57 (by decide)
      refine lv_lconst (v := 1) hx hb dX12_one_162 (by decide) ?_
      refine lv_goto (tgt := 167) hx hb dX12_one_163 (by decide) ?_
      exact W.lret (v := 1) hx hb hr (fun t9 ht9 hW9 => ⟨⟨_, rfl, _, rfl⟩, ht9.trans hHe⟩) (fun _ h9 => by rw [hlc] at h9; exact absurd h9 List.not_mem_nil) dX12_one_167
  · refine tc_i 11 c_1 ?_
    have r_11 : Rg 11 11 a := Rg.of c_1 (Rg.c rfl)
    refine lv_tableIn (tgt := 172) hx hb dX12_one_1 (by decide) (by decide) rfl (by decide) ?_
    refine lv_lload_n hx hb dX12_one_172 rfl (lv_at hl 1 rfl) ?_
    refine lv_lload_n hx hb dX12_one_173 rfl (lv_at hl 2 rfl) ?_
    refine lv_lor hx hb dX12_one_174 ?_
    refine lv_topl (fun x_61 e_62 => ?_)
    exact W.lret (v := x_61) hx hb hr (fun t9 ht9 hW9 => ⟨⟨_, rfl, _, rfl⟩, ht9.trans hHe⟩) (fun _ h9 => by rw [hlc] at h9; exact absurd h9 List.not_mem_nil) dX12_one_175
  · refine tc_i 12 c_1 ?_
    have r_12 : Rg 12 12 a := Rg.of c_1 (Rg.c rfl)
    refine lv_tableIn (tgt := 168) hx hb dX12_one_1 (by decide) (by decide) rfl (by decide) ?_
    refine lv_lload_n hx hb dX12_one_168 rfl (lv_at hl 1 rfl) ?_
    refine lv_lload_n hx hb dX12_one_169 rfl (lv_at hl 2 rfl) ?_
    refine lv_land hx hb dX12_one_170 ?_
    refine lv_topl (fun x_63 e_64 => ?_)
    exact W.lret (v := x_63) hx hb hr (fun t9 ht9 hW9 => ⟨⟨_, rfl, _, rfl⟩, ht9.trans hHe⟩) (fun _ h9 => by rw [hlc] at h9; exact absurd h9 List.not_mem_nil) dX12_one_171
  · refine tc_i 13 c_1 ?_
    have r_13 : Rg 13 13 a := Rg.of c_1 (Rg.c rfl)
    refine lv_tableIn (tgt := 172) hx hb dX12_one_1 (by decide) (by decide) rfl (by decide) ?_
    refine lv_lload_n hx hb dX12_one_172 rfl (lv_at hl 1 rfl) ?_
    refine lv_lload_n hx hb dX12_one_173 rfl (lv_at hl 2 rfl) ?_
    refine lv_lor hx hb dX12_one_174 ?_
    refine lv_topl (fun x_65 e_66 => ?_)
    exact W.lret (v := x_65) hx hb hr (fun t9 ht9 hW9 => ⟨⟨_, rfl, _, rfl⟩, ht9.trans hHe⟩) (fun _ h9 => by rw [hlc] at h9; exact absurd h9 List.not_mem_nil) dX12_one_175
  · refine tc_i 14 c_1 ?_
    have r_14 : Rg 14 14 a := Rg.of c_1 (Rg.c rfl)
    refine lv_tableIn (tgt := 94) hx hb dX12_one_1 (by decide) (by decide) rfl (by decide) ?_
    refine lv_lload_n hx hb dX12_one_94 rfl (lv_at hl 2 rfl) ?_
    refine lv_lconst (v := 0) hx hb dX12_one_95 (by decide) ?_
    refine W.lcmp hx hb dX12_one_96 ?_
    refine lv_topi (fun x_67 e_68 => ?_)
    have r_69 : Rg (-1) 1 x_67 := Rg.of e_68 (cmp_r _ _)
    refine lv_if_ne (tgt := 104) hx hb dX12_one_97 (by decide) (fun c_70 => ?_) (fun c_70 => ?_)
    · refine lv_lload_n hx hb dX12_one_104 rfl (lv_at hl 1 rfl) ?_
      refine lv_lload_n hx hb dX12_one_105 rfl (lv_at hl 2 rfl) ?_
      refine lv_lrem hx hb dX12_one_106 (lz_c e_68 c_70) ?_
      refine lv_topl (fun x_74 e_75 => ?_)
      exact W.lret (v := x_74) hx hb hr (fun t9 ht9 hW9 => ⟨⟨_, rfl, _, rfl⟩, ht9.trans hHe⟩) (fun _ h9 => by rw [hlc] at h9; exact absurd h9 List.not_mem_nil) dX12_one_107
    · have r_71 : Rg 0 0 x_67 := Rg.eq_l c_70 r_69 (Rg.c (c := 0) (k := 0) rfl) (by decide)
      refine lv_lconst (v := 0) hx hb dX12_one_100 (by decide) ?_
      refine lv_goto (tgt := 107) hx hb dX12_one_101 (by decide) ?_
      exact W.lret (v := 0) hx hb hr (fun t9 ht9 hW9 => ⟨⟨_, rfl, _, rfl⟩, ht9.trans hHe⟩) (fun _ h9 => by rw [hlc] at h9; exact absurd h9 List.not_mem_nil) dX12_one_107
