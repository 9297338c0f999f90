theorem dX12_strength_0 : decode cX12_strength 0 = .ok (.iload_n 0, 1) := by decide +kernel
theorem dX12_strength_1 : decode cX12_strength 1 = .ok (.bipush 13, 2) := by decide +kernel
theorem dX12_strength_3 : decode cX12_strength 3 = .ok (.if_icmp .ne 7, 3) := by decide +kernel
theorem dX12_strength_10 : decode cX12_strength 10 = .ok (.iload_n 0, 1) := by decide +kernel
theorem dX12_strength_11 : decode cX12_strength 11 = .ok (.bipush 12, 2) := by decide +kernel
theorem dX12_strength_13 : decode cX12_strength 13 = .ok (.if_icmp .ne 7, 3) := by decide +kernel
theorem dX12_strength_20 : decode cX12_strength 20 = .ok (.iload_n 0, 1) := by decide +kernel
theorem dX12_strength_21 : decode cX12_strength 21 = .ok (.bipush 11, 2) := by decide +kernel
theorem dX12_strength_23 : decode cX12_strength 23 = .ok (.if_icmp .ne 7, 3) := by decide +kernel
theorem dX12_strength_30 : decode cX12_strength 30 = .ok (.iconst 0, 1) := by decide +kernel
theorem dX12_strength_31 : decode cX12_strength 31 = .ok (.ireturn, 1) := by decide +kernel
theorem dX12_strength_26 : decode cX12_strength 26 = .ok (.iconst 3, 1) := by decide +kernel
theorem dX12_strength_27 : decode cX12_strength 27 = .ok (.goto 4, 3) := by decide +kernel
theorem dX12_strength_16 : decode cX12_strength 16 = .ok (.iconst 2, 1) := by decide +kernel
theorem dX12_strength_17 : decode cX12_strength 17 = .ok (.goto 14, 3) := by decide +kernel
theorem dX12_strength_6 : decode cX12_strength 6 = .ok (.iconst 1, 1) := by decide +kernel
theorem dX12_strength_7 : decode cX12_strength 7 = .ok (.goto 24, 3) := by decide +kernel
set_option maxHeartbeats 4000000 in
set_option maxRecDepth 100000 in
theorem c_M_strength (l : Launch) (D : va_G) (cs : Nat → ClassId) (a : Int32)  : Met l yX12_strength (Cond.code yX12_strength cX12_strength 1 (some .int) :: TB) (RM 0 0 0) (va_Pc [.int a] (PRR D cs [])) (k2_QcV (.int (nI (strF a)))) 0 0 (fun _ => False) := by
  refine MER (y := yX12_strength) (cc := cX12_strength) (maxL := 1) (ret := (some .int)) (d := 0) (D := D) (cs := cs) (ws := []) (av := [.int a]) (Qc := k2_QcV (.int (nI (strF a)))) (by decide) (Nat.le_of_ble_eq_true rfl) ?_
  intro p e s m below meth c ls H hHe hx hb hr hml hown hts hlocks hP hK hN hl
  obtain ⟨locs, hlc⟩ : ∃ z : List Loc, z = [] := ⟨_, rfl⟩
  rw [← hlc]
  have hown : s.vm.findClass "WrongHoleModel" = some m.cls := hown
  have hT : ∀ w ∈ TB, w.before ([.int a] : List Value).toArray s = true := fun w h => hts w (List.mem_cons_of_mem _ h)
  have hl : lv_has ls 1 [(0, .int a)] := hl
  have hP : va_P D vwCl [] H := hP
  refine lv_iload_n hx hb dX12_strength_0 rfl (lv_at hl 0 rfl) ?_
  refine lv_bipush (v := 13) hx hb dX12_strength_1 (by decide) ?_
  refine lv_icmp_ne (tgt := 10) hx hb dX12_strength_3 (by decide) (fun c_1 => ?_) (fun c_1 => ?_)
  · refine lv_iload_n hx hb dX12_strength_10 rfl (lv_at hl 0 rfl) ?_
    refine lv_bipush (v := 12) hx hb dX12_strength_11 (by decide) ?_
    refine lv_icmp_ne (tgt := 20) hx hb dX12_strength_13 (by decide) (fun c_7 => ?_) (fun c_7 => ?_)
    · refine lv_iload_n hx hb dX12_strength_20 rfl (lv_at hl 0 rfl) ?_
      refine lv_bipush (v := 11) hx hb dX12_strength_21 (by decide) ?_
      refine lv_icmp_ne (tgt := 30) hx hb dX12_strength_23 (by decide) (fun c_11 => ?_) (fun c_11 => ?_)
      · refine lv_iconst (v := 0) hx hb dX12_strength_30 (by decide) ?_
        exact W.iret (v := 0) hx hb hr (fun t9 ht9 hW9 => ⟨by rw [show (.int (nI (strF a)) : Value) = .int 0 from (congrArg Value.int (show nI (strF a) = 0 from by unfold strF; rw [if_neg c_1, if_neg c_7, if_neg c_11]; rfl))], ht9.trans hHe⟩) (fun _ h9 => by rw [hlc] at h9; exact absurd h9 List.not_mem_nil) dX12_strength_31
      · have r_12 : Rg 11 11 a := Rg.eq_l c_11 (Rg.top a) (Rg.c (c := 11) (k := 11) rfl) (by decide)
        refine lv_iconst (v := 3) hx hb dX12_strength_26 (by decide) ?_
        refine lv_goto (tgt := 31) hx hb dX12_strength_27 (by decide) ?_
        exact W.iret (v := 3) hx hb hr (fun t9 ht9 hW9 => ⟨by rw [show (.int (nI (strF a)) : Value) = .int 3 from (congrArg Value.int (show nI (strF a) = 3 from by unfold strF; rw [if_neg c_1, if_neg c_7, if_pos c_11]; rfl))], ht9.trans hHe⟩) (fun _ h9 => by rw [hlc] at h9; exact absurd h9 List.not_mem_nil) dX12_strength_31
    · have r_8 : Rg 12 12 a := Rg.eq_l c_7 (Rg.top a) (Rg.c (c := 12) (k := 12) rfl) (by decide)
      refine lv_iconst (v := 2) hx hb dX12_strength_16 (by decide) ?_
      refine lv_goto (tgt := 31) hx hb dX12_strength_17 (by decide) ?_
      exact W.iret (v := 2) hx hb hr (fun t9 ht9 hW9 => ⟨by rw [show (.int (nI (strF a)) : Value) = .int 2 from (congrArg Value.int (show nI (strF a) = 2 from by unfold strF; rw [if_neg c_1, if_pos c_7]; rfl))], ht9.trans hHe⟩) (fun _ h9 => by rw [hlc] at h9; exact absurd h9 List.not_mem_nil) dX12_strength_31
  · have r_2 : Rg 13 13 a := Rg.eq_l c_1 (Rg.top a) (Rg.c (c := 13) (k := 13) rfl) (by decide)
    refine lv_iconst (v := 1) hx hb dX12_strength_6 (by decide) ?_
    refine lv_goto (tgt := 31) hx hb dX12_strength_7 (by decide) ?_
    exact W.iret (v := 1) hx hb hr (fun t9 ht9 hW9 => ⟨by rw [show (.int (nI (strF a)) : Value) = .int 1 from (congrArg Value.int (show nI (strF a) = 1 from by unfold strF; rw [if_pos c_1]; rfl))], ht9.trans hHe⟩) (fun _ h9 => by rw [hlc] at h9; exact absurd h9 List.not_mem_nil) dX12_strength_31
theorem dX12_settles_0 : decode cX12_settles 0 = .ok (.aload_n 0, 1) := by decide +kernel
theorem dX12_settles_1 : decode cX12_settles 1 = .ok (.getfield 141, 3) := by decide +kernel
theorem qq_5_168 : Cond.fieldLink "WrongHoleModel" 141 "WrongHoleModel" "opened" "I" ∈ TB := mk_tb (ti_5 (List.mem_of_getElem? (i := 168) rfl)) rfl
theorem dX12_settles_4 : decode cX12_settles 4 = .ok (.ifCond .le 72, 3) := by decide +kernel
theorem dX12_settles_76 : decode cX12_settles 76 = .ok (.return_, 1) := by decide +kernel
theorem dX12_settles_7 : decode cX12_settles 7 = .ok (.aload_n 0, 1) := by decide +kernel
theorem dX12_settles_8 : decode cX12_settles 8 = .ok (.getfield 29, 3) := by decide +kernel
theorem dX12_settles_11 : decode cX12_settles 11 = .ok (.aload_n 0, 1) := by decide +kernel
theorem dX12_settles_12 : decode cX12_settles 12 = .ok (.getfield 141, 3) := by decide +kernel
theorem dX12_settles_15 : decode cX12_settles 15 = .ok (.iconst 1, 1) := by decide +kernel
theorem dX12_settles_16 : decode cX12_settles 16 = .ok (.isub, 1) := by decide +kernel
theorem dX12_settles_17 : decode cX12_settles 17 = .ok (.iaload, 1) := by decide +kernel
theorem dX12_settles_18 : decode cX12_settles 18 = .ok (.invokestatic 144, 3) := by decide +kernel
theorem qq_6_226 : Cond.code yX12_strength cX12_strength 1 (some .int) ∈ TB := mk_tb (ti_6 (List.mem_of_getElem? (i := 226) rfl)) rfl
theorem qq_6_224 : Cond.methodLink "WrongHoleModel" 144 yX12_strength ∈ TB := mk_tb (ti_6 (List.mem_of_getElem? (i := 224) rfl)) rfl
theorem qq_6_225 : Cond.static yX12_strength ∈ TB := mk_tb (ti_6 (List.mem_of_getElem? (i := 225) rfl)) rfl
theorem dX12_settles_21 : decode cX12_settles 21 = .ok (.iload_n 1, 1) := by decide +kernel
theorem dX12_settles_22 : decode cX12_settles 22 = .ok (.if_icmp .lt 54, 3) := by decide +kernel
theorem dX12_settles_25 : decode cX12_settles 25 = .ok (.aload_n 0, 1) := by decide +kernel
theorem dX12_settles_26 : decode cX12_settles 26 = .ok (.dup, 1) := by decide +kernel
theorem dX12_settles_27 : decode cX12_settles 27 = .ok (.getfield 141, 3) := by decide +kernel
theorem dX12_settles_30 : decode cX12_settles 30 = .ok (.iconst 1, 1) := by decide +kernel
theorem dX12_settles_31 : decode cX12_settles 31 = .ok (.isub, 1) := by decide +kernel
theorem dX12_settles_32 : decode cX12_settles 32 = .ok (.putfield 141, 3) := by decide +kernel
theorem dX12_settles_35 : decode cX12_settles 35 = .ok (.aload_n 0, 1) := by decide +kernel
theorem dX12_settles_36 : decode cX12_settles 36 = .ok (.aload_n 0, 1) := by decide +kernel
theorem dX12_settles_37 : decode cX12_settles 37 = .ok (.getfield 29, 3) := by decide +kernel
theorem dX12_settles_40 : decode cX12_settles 40 = .ok (.aload_n 0, 1) := by decide +kernel
theorem dX12_settles_41 : decode cX12_settles 41 = .ok (.getfield 141, 3) := by decide +kernel
theorem dX12_settles_44 : decode cX12_settles 44 = .ok (.iaload, 1) := by decide +kernel
theorem dX12_settles_45 : decode cX12_settles 45 = .ok (.iconst 0, 1) := by decide +kernel
theorem dX12_settles_46 : decode cX12_settles 46 = .ok (.invokevirtual 148, 3) := by decide +kernel
theorem dX12_settles_49 : decode cX12_settles 49 = .ok (.aload_n 0, 1) := by decide +kernel
theorem dX12_settles_50 : decode cX12_settles 50 = .ok (.getfield 29, 3) := by decide +kernel
theorem dX12_settles_53 : decode cX12_settles 53 = .ok (.aload_n 0, 1) := by decide +kernel
theorem dX12_settles_54 : decode cX12_settles 54 = .ok (.getfield 141, 3) := by decide +kernel
theorem dX12_settles_57 : decode cX12_settles 57 = .ok (.iaload, 1) := by decide +kernel
theorem dX12_settles_58 : decode cX12_settles 58 = .ok (.bipush 11, 2) := by decide +kernel
theorem dX12_settles_60 : decode cX12_settles 60 = .ok (.if_icmp .ne (-60), 3) := by decide +kernel
theorem dX12_settles_63 : decode cX12_settles 63 = .ok (.aload_n 0, 1) := by decide +kernel
theorem dX12_settles_64 : decode cX12_settles 64 = .ok (.dup, 1) := by decide +kernel
theorem dX12_settles_65 : decode cX12_settles 65 = .ok (.getfield 138, 3) := by decide +kernel
theorem qq_5_165 : Cond.fieldLink "WrongHoleModel" 138 "WrongHoleModel" "deep" "I" ∈ TB := mk_tb (ti_5 (List.mem_of_getElem? (i := 165) rfl)) rfl
theorem dX12_settles_68 : decode cX12_settles 68 = .ok (.iconst 1, 1) := by decide +kernel
theorem dX12_settles_69 : decode cX12_settles 69 = .ok (.isub, 1) := by decide +kernel
theorem dX12_settles_70 : decode cX12_settles 70 = .ok (.putfield 138, 3) := by decide +kernel
theorem dX12_settles_73 : decode cX12_settles 73 = .ok (.goto (-73), 3) := by decide +kernel
set_option maxHeartbeats 4000000 in
set_option maxRecDepth 100000 in
theorem c_M_settles (l : Launch) (D : va_G) (cs : Nat → ClassId) (X : XX) (sz : Nat) (m0 : Nat) (mtp : Nat) (sta : Int32) (sru : Int32) (msg : Nat) (mln : Nat) (mcl : Nat) (mcs : Nat) (mrd : Nat) (snx : Int32) (swr : Int32) (snu : Int32) (ste : Int32) (sma : Int32) (sde : Int32) (sli : Int32) (mop : Nat) (sod : Int32) (mst : Nat) (sto : Int32) (mwd : Nat) (msd : Nat) (sx_ : Int32) (mws : Nat) (sun : Int32) (mfr : Nat) (mqu : Nat) (miw : Nat) (sfi : Int32) (swa : Int32) (sdx : Int64) (mim : Nat) (mix : Nat) (mmd : Nat) (gsg : Nat → Int32) (gln : Nat → Int32) (gop : Nat → Int32) (sl : Nat) (p0 : Nat) (a : Int32) (r_sod : Rg 0 400 sod) (r_a : Rg 1 3 a) (hpt : PS sta snx ste sma gln gsg (cN sod + sl) p0 (1 + CAO gop (cN sod))) : Met l yX12_settles (Cond.code yX12_settles cX12_settles 2 none :: TB) (RM 1 0 0) (va_Pc [.ref m0, .int a] (PRE D cs X [(m0, .inr (10, (.ref mtp :: .int sta :: .int sru :: .ref msg :: .ref mln :: .ref mcl :: .ref mcs :: .ref mrd :: .int snx :: .int swr :: .int snu :: .int ste :: .int sma :: .int sde :: .int sli :: .ref mop :: .int sod :: .ref mst :: .int sto :: .ref mwd :: .ref msd :: .int sx_ :: .ref mws :: .int sun :: .ref mfr :: .ref mqu :: .ref miw :: .int sfi :: .int swa :: .long sdx :: .ref mim :: .ref mix :: .ref mmd :: []))), (msg, .inl ((cs 0), 2400, .inl gsg)), (mln, .inl ((cs 0), 7, .inl gln)), (mop, .inl ((cs 0), 400, .inl gop))] [] sz)) (va_Qv (S := Unit) (fun _ => True) (fun _ t => ∃ (sde2 : Int32), ∃ (sod2 : Int32), ∃ (gsg2 : Nat → Int32), ∃ (gln2 : Nat → Int32), Rg 0 400 sod2 ∧ (PS sta snx ste sma gln2 gsg2 (cN sod2 + sl) p0 (1 + CAO gop (cN sod2))) ∧ (KP gsg gln gsg2 gln2 (cN ste)) ∧ (NPP gop (cN sod) (cN sod2) (cN a)) ∧ (cN sod2 = 0 ∨ strF (gop (cN sod2 - 1)) < cN a) ∧ va_P D vwCl [(m0, .inr (10, (.ref mtp :: .int sta :: .int sru :: .ref msg :: .ref mln :: .ref mcl :: .ref mcs :: .ref mrd :: .int snx :: .int swr :: .int snu :: .int ste :: .int sma :: .int sde2 :: .int sli :: .ref mop :: .int sod2 :: .ref mst :: .int sto :: .ref mwd :: .ref msd :: .int sx_ :: .ref mws :: .int sun :: .ref mfr :: .ref mqu :: .ref miw :: .int sfi :: .int swa :: .long sdx :: .ref mim :: .ref mix :: .ref mmd :: []))), (msg, .inl ((cs 0), 2400, .inl gsg2)), (mln, .inl ((cs 0), 7, .inl gln2)), (mop, .inl ((cs 0), 400, .inl gop))] t.heap ∧ va_D (va_A [(m0, .inr (10, (.ref mtp :: .int sta :: .int sru :: .ref msg :: .ref mln :: .ref mcl :: .ref mcs :: .ref mrd :: .int snx :: .int swr :: .int snu :: .int ste :: .int sma :: .int sde :: .int sli :: .ref mop :: .int sod :: .ref mst :: .int sto :: .ref mwd :: .ref msd :: .int sx_ :: .ref mws :: .int sun :: .ref mfr :: .ref mqu :: .ref miw :: .int sfi :: .int swa :: .long sdx :: .ref mim :: .ref mix :: .ref mmd :: []))), (msg, .inl ((cs 0), 2400, .inl gsg)), (mln, .inl ((cs 0), 7, .inl gln)), (mop, .inl ((cs 0), 400, .inl gop))] sz) [(m0, .inr (10, (.ref mtp :: .int sta :: .int sru :: .ref msg :: .ref mln :: .ref mcl :: .ref mcs :: .ref mrd :: .int snx :: .int swr :: .int snu :: .int ste :: .int sma :: .int sde2 :: .int sli :: .ref mop :: .int sod2 :: .ref mst :: .int sto :: .ref mwd :: .ref msd :: .int sx_ :: .ref mws :: .int sun :: .ref mfr :: .ref mqu :: .ref miw :: .int sfi :: .int swa :: .long sdx :: .ref mim :: .ref mix :: .ref mmd :: []))), (msg, .inl ((cs 0), 2400, .inl gsg2)), (mln, .inl ((cs 0), 7, .inl gln2)), (mop, .inl ((cs 0), 400, .inl gop))]) (va_A [(m0, .inr (10, (.ref mtp :: .int sta :: .int sru :: .ref msg :: .ref mln :: .ref mcl :: .ref mcs :: .ref mrd :: .int snx :: .int swr :: .int snu :: .int ste :: .int sma :: .int sde :: .int sli :: .ref mop :: .int sod :: .ref mst :: .int sto :: .ref mwd :: .ref msd :: .int sx_ :: .ref mws :: .int sun :: .ref mfr :: .ref mqu :: .ref miw :: .int sfi :: .int swa :: .long sdx :: .ref mim :: .ref mix :: .ref mmd :: []))), (msg, .inl ((cs 0), 2400, .inl gsg)), (mln, .inl ((cs 0), 7, .inl gln)), (mop, .inl ((cs 0), 400, .inl gop))] sz)) 0 0 (va_A [(m0, .inr (10, (.ref mtp :: .int sta :: .int sru :: .ref msg :: .ref mln :: .ref mcl :: .ref mcs :: .ref mrd :: .int snx :: .int swr :: .int snu :: .int ste :: .int sma :: .int sde :: .int sli :: .ref mop :: .int sod :: .ref mst :: .int sto :: .ref mwd :: .ref msd :: .int sx_ :: .ref mws :: .int sun :: .ref mfr :: .ref mqu :: .ref miw :: .int sfi :: .int swa :: .long sdx :: .ref mim :: .ref mix :: .ref mmd :: []))), (msg, .inl ((cs 0), 2400, .inl gsg)), (mln, .inl ((cs 0), 7, .inl gln)), (mop, .inl ((cs 0), 400, .inl gop))] sz) := by
  refine MET (y := yX12_settles) (cc := cX12_settles) (maxL := 2) (ret := none) (d := 1) (mc := 0) (ms := 0) (D := D) (cs := cs) (X := X) (ws := [(m0, .inr (10, (.ref mtp :: .int sta :: .int sru :: .ref msg :: .ref mln :: .ref mcl :: .ref mcs :: .ref mrd :: .int snx :: .int swr :: .int snu :: .int ste :: .int sma :: .int sde :: .int sli :: .ref mop :: .int sod :: .ref mst :: .int sto :: .ref mwd :: .ref msd :: .int sx_ :: .ref mws :: .int sun :: .ref mfr :: .ref mqu :: .ref miw :: .int sfi :: .int swa :: .long sdx :: .ref mim :: .ref mix :: .ref mmd :: []))), (msg, .inl ((cs 0), 2400, .inl gsg)), (mln, .inl ((cs 0), 7, .inl gln)), (mop, .inl ((cs 0), 400, .inl gop))]) (wo := []) (sz := sz) (av := [.ref m0, .int a]) (Qc := fun A => va_Qv (S := Unit) (fun _ => True) (fun _ t => ∃ (sde2 : Int32), ∃ (sod2 : Int32), ∃ (gsg2 : Nat → Int32), ∃ (gln2 : Nat → Int32), Rg 0 400 sod2 ∧ (PS sta snx ste sma gln2 gsg2 (cN sod2 + sl) p0 (1 + CAO gop (cN sod2))) ∧ (KP gsg gln gsg2 gln2 (cN ste)) ∧ (NPP gop (cN sod) (cN sod2) (cN a)) ∧ (cN sod2 = 0 ∨ strF (gop (cN sod2 - 1)) < cN a) ∧ va_P D vwCl [(m0, .inr (10, (.ref mtp :: .int sta :: .int sru :: .ref msg :: .ref mln :: .ref mcl :: .ref mcs :: .ref mrd :: .int snx :: .int swr :: .int snu :: .int ste :: .int sma :: .int sde2 :: .int sli :: .ref mop :: .int sod2 :: .ref mst :: .int sto :: .ref mwd :: .ref msd :: .int sx_ :: .ref mws :: .int sun :: .ref mfr :: .ref mqu :: .ref miw :: .int sfi :: .int swa :: .long sdx :: .ref mim :: .ref mix :: .ref mmd :: []))), (msg, .inl ((cs 0), 2400, .inl gsg2)), (mln, .inl ((cs 0), 7, .inl gln2)), (mop, .inl ((cs 0), 400, .inl gop))] t.heap ∧ va_D A [(m0, .inr (10, (.ref mtp :: .int sta :: .int sru :: .ref msg :: .ref mln :: .ref mcl :: .ref mcs :: .ref mrd :: .int snx :: .int swr :: .int snu :: .int ste :: .int sma :: .int sde2 :: .int sli :: .ref mop :: .int sod2 :: .ref mst :: .int sto :: .ref mwd :: .ref msd :: .int sx_ :: .ref mws :: .int sun :: .ref mfr :: .ref mqu :: .ref miw :: .int sfi :: .int swa :: .long sdx :: .ref mim :: .ref mix :: .ref mmd :: []))), (msg, .inl ((cs 0), 2400, .inl gsg2)), (mln, .inl ((cs 0), 7, .inl gln2)), (mop, .inl ((cs 0), 400, .inl gop))]) A) (by decide) (Nat.le_of_ble_eq_true rfl) ?_
  intro p e s m below meth c ls A H hHe hx hb hr hml hown hts hlocks hnm hP hK hD hA hS hN hR hX hXs hl
  have hD : va_D A [(m0, .inr (10, (.ref mtp :: .int sta :: .int sru :: .ref msg :: .ref mln :: .ref mcl :: .ref mcs :: .ref mrd :: .int snx :: .int swr :: .int snu :: .int ste :: .int sma :: .int sde :: .int sli :: .ref mop :: .int sod :: .ref mst :: .int sto :: .ref mwd :: .ref msd :: .int sx_ :: .ref mws :: .int sun :: .ref mfr :: .ref mqu :: .ref miw :: .int sfi :: .int swa :: .long sdx :: .ref mim :: .ref mix :: .ref mmd :: []))), (msg, .inl ((cs 0), 2400, .inl gsg)), (mln, .inl ((cs 0), 7, .inl gln)), (mop, .inl ((cs 0), 400, .inl gop))] := hD
  obtain ⟨locs, hlc⟩ : ∃ z : List Loc, z = [] := ⟨_, rfl⟩
  rw [← hlc] at hS ⊢
  have hown : s.vm.findClass "WrongHoleModel" = some m.cls := hown
  have hT : ∀ w ∈ TB, w.before ([.ref m0, .int a] : List Value).toArray s = true := fun w h => hts w (List.mem_cons_of_mem _ h)
  have hl : lv_has ls 2 [(0, .ref m0), (1, .int a)] := hl
  have hP : va_P D vwCl [(m0, .inr (10, (.ref mtp :: .int sta :: .int sru :: .ref msg :: .ref mln :: .ref mcl :: .ref mcs :: .ref mrd :: .int snx :: .int swr :: .int snu :: .int ste :: .int sma :: .int sde :: .int sli :: .ref mop :: .int sod :: .ref mst :: .int sto :: .ref mwd :: .ref msd :: .int sx_ :: .ref mws :: .int sun :: .ref mfr :: .ref mqu :: .ref miw :: .int sfi :: .int swa :: .long sdx :: .ref mim :: .ref mix :: .ref mmd :: []))), (msg, .inl ((cs 0), 2400, .inl gsg)), (mln, .inl ((cs 0), 7, .inl gln)), (mop, .inl ((cs 0), 400, .inl gop))] H := hP
  refine w_wh (σ := (Int32) × (Int32) × (Nat → Int32) × (Nat → Int32)) (fun x9 H locs ls => match x9 with | (v_89, v_90, g_91, g_92) => Rg 0 400 v_90 ∧ (PS sta snx ste sma g_92 g_91 (cN v_90 + sl) p0 (1 + CAO gop (cN v_90)) ∧ KP gsg gln g_91 g_92 (cN ste) ∧ NPP gop (cN sod) (cN v_90) (cN a)) ∧ va_P D vwCl [(m0, .inr (10, (.ref mtp :: .int sta :: .int sru :: .ref msg :: .ref mln :: .ref mcl :: .ref mcs :: .ref mrd :: .int snx :: .int swr :: .int snu :: .int ste :: .int sma :: .int v_89 :: .int sli :: .ref mop :: .int v_90 :: .ref mst :: .int sto :: .ref mwd :: .ref msd :: .int sx_ :: .ref mws :: .int sun :: .ref mfr :: .ref mqu :: .ref miw :: .int sfi :: .int swa :: .long sdx :: .ref mim :: .ref mix :: .ref mmd :: []))), (msg, .inl ((cs 0), 2400, .inl g_91)), (mln, .inl ((cs 0), 7, .inl g_92)), (mop, .inl ((cs 0), 400, .inl gop))] H ∧ va_D A [(m0, .inr (10, (.ref mtp :: .int sta :: .int sru :: .ref msg :: .ref mln :: .ref mcl :: .ref mcs :: .ref mrd :: .int snx :: .int swr :: .int snu :: .int ste :: .int sma :: .int v_89 :: .int sli :: .ref mop :: .int v_90 :: .ref mst :: .int sto :: .ref mwd :: .ref msd :: .int sx_ :: .ref mws :: .int sun :: .ref mfr :: .ref mqu :: .ref miw :: .int sfi :: .int swa :: .long sdx :: .ref mim :: .ref mix :: .ref mmd :: []))), (msg, .inl ((cs 0), 2400, .inl g_91)), (mln, .inl ((cs 0), 7, .inl g_92)), (mop, .inl ((cs 0), 400, .inl gop))] ∧ va_S A s.heap H locs ∧ lv_has ls 2 [(0, .ref m0), (1, .int a)]) (fun x9 => match x9 with | (v_89, v_90, g_91, g_92) => cN v_90) 0 ?_ (sde, sod, gsg, gln) H locs ls ⟨r_sod, ⟨hpt, KP.rfl', NPP.rf⟩, hP, hD, hS, lv_sub hl [0, 1] rfl⟩
  rintro ⟨v_89, v_90, g_91, g_92⟩ H locs ls ⟨r_446, iv_447, hP, hD, hS, hl⟩ ih_445
  refine lv_aload_n hx hb dX12_settles_0 rfl (lv_at hl 0 rfl) ?_
  refine va_get (D := D) (ci := 10) (v := .int v_90) (C := "WrongHoleModel") (T := TX12) (N := 33) hx hb hts (iq_RX12 _) hown hK hP 0 rfl rfl 16 (by decide) (hT _ qq_5_168) (fun _ h9 => h9) rfl dX12_settles_1 ?_
  refine lv_if_le (tgt := 76) hx hb dX12_settles_4 (by decide) (fun c_448 => ?_) (fun c_448 => ?_)
  · have r_449 : Rg 0 0 v_90 := Rg.le_l c_448 r_446 (Rg.c (c := 0) (k := 0) rfl) (by decide)
    refine W.widen (k := 0) (n := 0) (Nat.le_of_ble_eq_true rfl) (Nat.le_of_ble_eq_true rfl) ?_
    have hP9 := hP.sub (ws' := [(m0, .inr (10, (.ref mtp :: .int sta :: .int sru :: .ref msg :: .ref mln :: .ref mcl :: .ref mcs :: .ref mrd :: .int snx :: .int swr :: .int snu :: .int ste :: .int sma :: .int v_89 :: .int sli :: .ref mop :: .int v_90 :: .ref mst :: .int sto :: .ref mwd :: .ref msd :: .int sx_ :: .ref mws :: .int sun :: .ref mfr :: .ref mqu :: .ref miw :: .int sfi :: .int swa :: .long sdx :: .ref mim :: .ref mix :: .ref mmd :: []))), (msg, .inl ((cs 0), 2400, .inl g_91)), (mln, .inl ((cs 0), 7, .inl g_92)), (mop, .inl ((cs 0), 400, .inl gop))]) [0, 1, 2, 3] rfl
    have hD9 := hD.sub (ws' := [(m0, .inr (10, (.ref mtp :: .int sta :: .int sru :: .ref msg :: .ref mln :: .ref mcl :: .ref mcs :: .ref mrd :: .int snx :: .int swr :: .int snu :: .int ste :: .int sma :: .int v_89 :: .int sli :: .ref mop :: .int v_90 :: .ref mst :: .int sto :: .ref mwd :: .ref msd :: .int sx_ :: .ref mws :: .int sun :: .ref mfr :: .ref mqu :: .ref miw :: .int sfi :: .int swa :: .long sdx :: .ref mim :: .ref mix :: .ref mmd :: []))), (msg, .inl ((cs 0), 2400, .inl g_91)), (mln, .inl ((cs 0), 7, .inl g_92)), (mop, .inl ((cs 0), 400, .inl gop))]) [0, 1, 2, 3] (by decide) rfl
    exact W.vret hx hb hr (fun t9 ht9 hW9 => ⟨⟨(), rfl, trivial, ⟨v_89, v_90, g_91, g_92, (Rg.wk (lo2 := 0) (hi2 := 400) r_449 (by decide)), iv_447.1, iv_447.2.1, iv_447.2.2, (Or.inl (le0 c_448 r_449)), by rw [ht9]; exact hP9, hD9⟩⟩, hS.F ht9⟩) hS.2.2 dX12_settles_76
  · have r_450 : Rg 1 400 v_90 := Rg.lt_r (nle_lt c_448) (Rg.c (c := 0) (k := 0) rfl) r_446 (by decide)
    refine lv_aload_n hx hb dX12_settles_7 rfl (lv_at hl 0 rfl) ?_
    refine va_get (D := D) (ci := 10) (v := .ref mop) (C := "WrongHoleModel") (T := TX12) (N := 33) hx hb hts (iq_RX12 _) hown hK hP 0 rfl rfl 15 (by decide) (hT _ qq_5_167) (fun _ h9 => h9) rfl dX12_settles_8 ?_
    refine lv_aload_n hx hb dX12_settles_11 rfl (lv_at hl 0 rfl) ?_
    refine va_get (D := D) (ci := 10) (v := .int v_90) (C := "WrongHoleModel") (T := TX12) (N := 33) hx hb hts (iq_RX12 _) hown hK hP 0 rfl rfl 16 (by decide) (hT _ qq_5_168) (fun _ h9 => h9) rfl dX12_settles_12 ?_
    refine lv_iconst (v := 1) hx hb dX12_settles_15 (by decide) ?_
    refine lv_isub hx hb dX12_settles_16 ?_
    refine lv_topi (fun x_483 e_484 => ?_)
    have r_485 : Rg 0 399 x_483 := Rg.sub e_484 r_450 (Rg.c (c := 1) (k := 1) rfl) (by decide)
    have hi_486 : vp_in x_483 400 := Rg.in r_485 (by decide)
    refine va_iald hx hb hK hP 3 0 rfl rfl hi_486 dX12_settles_17 ?_
    refine lv_topi (fun x_487 e_488 => ?_)
    have hPc := va_P.sub (ws' := []) hP [] rfl
    refine cl_V (W.runS (As := [.int x_487]) (rest := []) ⟨hx, hb, hml, hown, hts⟩ (c_M_strength l D cs x_487) ⟨callB_of 1 hts (gd_C qq_6_226) rfl rfl rfl (hT _ qq_1_9) (hT _ qq_6_224) (by decide +kernel) (rm_R rfl rfl), (hT _ qq_6_225)⟩ (pq_S hPc hK hN) rfl rfl hl.1 rfl (lv_room (Nat.le_of_ble_eq_true rfl)) dX12_settles_18 ⟨Nat.le_of_ble_eq_true rfl, Nat.le_of_ble_eq_true rfl⟩) ?_
    refine lv_topi (fun x_489 e_490 => ?_)
    have r_491 : Rg 0 3 x_489 := Rg.of e_490 (str_rg _)
    refine lv_iload_n hx hb dX12_settles_21 rfl (lv_at hl 1 rfl) ?_
    refine lv_icmp_lt (tgt := 76) hx hb dX12_settles_22 (by decide) (fun c_492 => ?_) (fun c_492 => ?_)
    · have r_493 : Rg 0 2 x_489 := Rg.lt_l c_492 r_491 r_a (by decide)
      refine W.widen (k := 0) (n := 0) (Nat.le_of_ble_eq_true rfl) (Nat.le_of_ble_eq_true rfl) ?_
      have hP9 := hP.sub (ws' := [(m0, .inr (10, (.ref mtp :: .int sta :: .int sru :: .ref msg :: .ref mln :: .ref mcl :: .ref mcs :: .ref mrd :: .int snx :: .int swr :: .int snu :: .int ste :: .int sma :: .int v_89 :: .int sli :: .ref mop :: .int v_90 :: .ref mst :: .int sto :: .ref mwd :: .ref msd :: .int sx_ :: .ref mws :: .int sun :: .ref mfr :: .ref mqu :: .ref miw :: .int sfi :: .int swa :: .long sdx :: .ref mim :: .ref mix :: .ref mmd :: []))), (msg, .inl ((cs 0), 2400, .inl g_91)), (mln, .inl ((cs 0), 7, .inl g_92)), (mop, .inl ((cs 0), 400, .inl gop))]) [0, 1, 2, 3] rfl
      have hD9 := hD.sub (ws' := [(m0, .inr (10, (.ref mtp :: .int sta :: .int sru :: .ref msg :: .ref mln :: .ref mcl :: .ref mcs :: .ref mrd :: .int snx :: .int swr :: .int snu :: .int ste :: .int sma :: .int v_89 :: .int sli :: .ref mop :: .int v_90 :: .ref mst :: .int sto :: .ref mwd :: .ref msd :: .int sx_ :: .ref mws :: .int sun :: .ref mfr :: .ref mqu :: .ref miw :: .int sfi :: .int swa :: .long sdx :: .ref mim :: .ref mix :: .ref mmd :: []))), (msg, .inl ((cs 0), 2400, .inl g_91)), (mln, .inl ((cs 0), 7, .inl g_92)), (mop, .inl ((cs 0), 400, .inl gop))]) [0, 1, 2, 3] (by decide) rfl
      exact W.vret hx hb hr (fun t9 ht9 hW9 => ⟨⟨(), rfl, trivial, ⟨v_89, v_90, g_91, g_92, (Rg.wk (lo2 := 0) (hi2 := 400) r_450 (by decide)), iv_447.1, iv_447.2.1, iv_447.2.2, (Or.inr (by rw [show cN v_90 - 1 = cN x_483 from by have h9 := cN_dec e_484 r_450 (by decide); omega, show gop (cN x_483) = x_487 from e_488.symm]; exact str_lt e_490 c_492 r_a)), by rw [ht9]; exact hP9, hD9⟩⟩, hS.F ht9⟩) hS.2.2 dX12_settles_76
    · have r_494 : Rg 1 3 x_489 := Rg.le_r (nlt_le c_492) r_a r_491 (by decide)
      refine lv_aload_n hx hb dX12_settles_25 rfl (lv_at hl 0 rfl) ?_
      refine lv_dup hx hb dX12_settles_26 rfl ?_
      refine va_get (D := D) (ci := 10) (v := .int v_90) (C := "WrongHoleModel") (T := TX12) (N := 33) hx hb hts (iq_RX12 _) hown hK hP 0 rfl rfl 16 (by decide) (hT _ qq_5_168) (fun _ h9 => h9) rfl dX12_settles_27 ?_
      refine lv_iconst (v := 1) hx hb dX12_settles_30 (by decide) ?_
      refine lv_isub hx hb dX12_settles_31 ?_
      refine lv_topi (fun x_516 e_517 => ?_)
      have r_518 : Rg 0 399 x_516 := Rg.sub e_517 r_450 (Rg.c (c := 1) (k := 1) rfl) (by decide)
      refine va_put (D := D) (ci := 10) (v := .int x_516) (ty := .int) (C := "WrongHoleModel") (T := TX12) (N := 33) hx hb hts (iq_RX12 _) tyX12 tyX12_ok nmX12 hown hK hP hD hS 0 rfl rfl 16 (by decide) (hT _ qq_5_168) (fun _ h9 => h9) rfl (by decide +kernel) rfl rfl (Nat.le_of_ble_eq_true rfl) dX12_settles_32 (fun H locs hP hD hS => ?_)
      have hP : va_P D vwCl [(m0, .inr (10, (.ref mtp :: .int sta :: .int sru :: .ref msg :: .ref mln :: .ref mcl :: .ref mcs :: .ref mrd :: .int snx :: .int swr :: .int snu :: .int ste :: .int sma :: .int v_89 :: .int sli :: .ref mop :: .int x_516 :: .ref mst :: .int sto :: .ref mwd :: .ref msd :: .int sx_ :: .ref mws :: .int sun :: .ref mfr :: .ref mqu :: .ref miw :: .int sfi :: .int swa :: .long sdx :: .ref mim :: .ref mix :: .ref mmd :: []))), (msg, .inl ((cs 0), 2400, .inl g_91)), (mln, .inl ((cs 0), 7, .inl g_92)), (mop, .inl ((cs 0), 400, .inl gop))] H := hP
      have hD : va_D A [(m0, .inr (10, (.ref mtp :: .int sta :: .int sru :: .ref msg :: .ref mln :: .ref mcl :: .ref mcs :: .ref mrd :: .int snx :: .int swr :: .int snu :: .int ste :: .int sma :: .int v_89 :: .int sli :: .ref mop :: .int x_516 :: .ref mst :: .int sto :: .ref mwd :: .ref msd :: .int sx_ :: .ref mws :: .int sun :: .ref mfr :: .ref mqu :: .ref miw :: .int sfi :: .int swa :: .long sdx :: .ref mim :: .ref mix :: .ref mmd :: []))), (msg, .inl ((cs 0), 2400, .inl g_91)), (mln, .inl ((cs 0), 7, .inl g_92)), (mop, .inl ((cs 0), 400, .inl gop))] := hD
      have pd_519 := cN_dec e_517 r_450 (by decide)
      have hs_520 : ¬ strF (gop (cN x_516)) < cN a := by rw [show gop (cN x_516) = x_487 from by rw [e_488, show x_483 = x_516 from e_484.trans e_517.symm]]; exact str_ge e_490 c_492 r_a
      refine lv_aload_n hx hb dX12_settles_35 rfl (lv_at hl 0 rfl) ?_
      refine lv_aload_n hx hb dX12_settles_36 rfl (lv_at hl 0 rfl) ?_
      refine va_get (D := D) (ci := 10) (v := .ref mop) (C := "WrongHoleModel") (T := TX12) (N := 33) hx hb hts (iq_RX12 _) hown hK hP 0 rfl rfl 15 (by decide) (hT _ qq_5_167) (fun _ h9 => h9) rfl dX12_settles_37 ?_
      refine lv_aload_n hx hb dX12_settles_40 rfl (lv_at hl 0 rfl) ?_
      refine va_get (D := D) (ci := 10) (v := .int x_516) (C := "WrongHoleModel") (T := TX12) (N := 33) hx hb hts (iq_RX12 _) hown hK hP 0 rfl rfl 16 (by decide) (hT _ qq_5_168) (fun _ h9 => h9) rfl dX12_settles_41 ?_
      have hi_521 : vp_in x_516 400 := Rg.in r_518 (by decide)
      refine va_iald hx hb hK hP 3 0 rfl rfl hi_521 dX12_settles_44 ?_
      refine lv_topi (fun x_522 e_523 => ?_)
      refine lv_iconst (v := 0) hx hb dX12_settles_45 (by decide) ?_
      have hPc := hP.sub (ws' := [(m0, .inr (10, (.ref mtp :: .int sta :: .int sru :: .ref msg :: .ref mln :: .ref mcl :: .ref mcs :: .ref mrd :: .int snx :: .int swr :: .int snu :: .int ste :: .int sma :: .int v_89 :: .int sli :: .ref mop :: .int x_516 :: .ref mst :: .int sto :: .ref mwd :: .ref msd :: .int sx_ :: .ref mws :: .int sun :: .ref mfr :: .ref mqu :: .ref miw :: .int sfi :: .int swa :: .long sdx :: .ref mim :: .ref mix :: .ref mmd :: []))), (msg, .inl ((cs 0), 2400, .inl g_91)), (mln, .inl ((cs 0), 7, .inl g_92))]) [0, 1, 2] rfl
      have hDc := hD.sub (ws' := [(m0, .inr (10, (.ref mtp :: .int sta :: .int sru :: .ref msg :: .ref mln :: .ref mcl :: .ref mcs :: .ref mrd :: .int snx :: .int swr :: .int snu :: .int ste :: .int sma :: .int v_89 :: .int sli :: .ref mop :: .int x_516 :: .ref mst :: .int sto :: .ref mwd :: .ref msd :: .int sx_ :: .ref mws :: .int sun :: .ref mfr :: .ref mqu :: .ref miw :: .int sfi :: .int swa :: .long sdx :: .ref mim :: .ref mix :: .ref mmd :: []))), (msg, .inl ((cs 0), 2400, .inl g_91)), (mln, .inl ((cs 0), 7, .inl g_92))]) [0, 1, 2] (by decide) rfl
      have hFc := va_free (wc := [(m0, .inr (10, (.ref mtp :: .int sta :: .int sru :: .ref msg :: .ref mln :: .ref mcl :: .ref mcs :: .ref mrd :: .int snx :: .int swr :: .int snu :: .int ste :: .int sma :: .int v_89 :: .int sli :: .ref mop :: .int x_516 :: .ref mst :: .int sto :: .ref mwd :: .ref msd :: .int sx_ :: .ref mws :: .int sun :: .ref mfr :: .ref mqu :: .ref miw :: .int sfi :: .int swa :: .long sdx :: .ref mim :: .ref mix :: .ref mmd :: []))), (msg, .inl ((cs 0), 2400, .inl g_91)), (mln, .inl ((cs 0), 7, .inl g_92))]) hD hS hA [0, 1, 2] rfl
      refine va_callv (va_runV (As := [.int x_522, .int 0]) (rest := []) ⟨hx, hb, hml, hown, hts⟩ (c_M_puts l D cs X H.size m0 mtp sta sru msg mln mcl mcs mrd snx swr snu ste sma v_89 sli mop x_516 mst sto mwd msd sx_ mws sun mfr mqu miw sfi swa sdx mim mix mmd g_91 g_92 x_522 0 hpt.te ((iv_447.1.re (k2 := (cN x_516 + sl) + 1) (by omega) rfl).ln)) ⟨callB_of 2 hts (gd_C qq_6_178) rfl rfl rfl (hT _ qq_1_9) (hT _ qq_6_175) (by decide +kernel) (rm_R rfl rfl), (hT _ qq_6_177), (hT _ qs_4_0)⟩ (pr_V hPc hK hDc hN (hR.sub (wo' := []) [] rfl) hS hFc hX hXs (ci := 10) (q0 := 0) rfl rfl) rfl rfl hl.1 rfl (lv_room (Nat.le_of_ble_eq_true rfl)) dX12_settles_46 ⟨Nat.le_of_ble_eq_true rfl, Nat.le_of_ble_eq_true rfl⟩) hS (fun q _ h => hFc q h) hFc (fun u_524 t_527 H1 locs ht9 hvm hw_525 hB_526 hz1 hk1 hS => ?_)
      obtain ⟨g_529, g_530, rp_531, rp_532, hP1, hD1⟩ := hB_526
      rw [ht9] at hP1
      obtain ⟨hP, hD⟩ := va_join (wr := [(mop, .inl ((cs 0), 400, .inl gop))]) (w1 := [(m0, .inr (10, (.ref mtp :: .int sta :: .int sru :: .ref msg :: .ref mln :: .ref mcl :: .ref mcs :: .ref mrd :: .int snx :: .int swr :: .int snu :: .int ste :: .int sma :: .int v_89 :: .int sli :: .ref mop :: .int x_516 :: .ref mst :: .int sto :: .ref mwd :: .ref msd :: .int sx_ :: .ref mws :: .int sun :: .ref mfr :: .ref mqu :: .ref miw :: .int sfi :: .int swa :: .long sdx :: .ref mim :: .ref mix :: .ref mmd :: []))), (msg, .inl ((cs 0), 2400, .inl g_529)), (mln, .inl ((cs 0), 7, .inl g_530))]) hP hD [0, 1, 2] [3] rfl rfl (by decide) (by decide) hk1 hFc hP1 hD1
      generalize H1 = H at hP hS ⊢
      have hP : va_P D vwCl [(mop, .inl ((cs 0), 400, .inl gop)), (m0, .inr (10, (.ref mtp :: .int sta :: .int sru :: .ref msg :: .ref mln :: .ref mcl :: .ref mcs :: .ref mrd :: .int snx :: .int swr :: .int snu :: .int ste :: .int sma :: .int v_89 :: .int sli :: .ref mop :: .int x_516 :: .ref mst :: .int sto :: .ref mwd :: .ref msd :: .int sx_ :: .ref mws :: .int sun :: .ref mfr :: .ref mqu :: .ref miw :: .int sfi :: .int swa :: .long sdx :: .ref mim :: .ref mix :: .ref mmd :: []))), (msg, .inl ((cs 0), 2400, .inl g_529)), (mln, .inl ((cs 0), 7, .inl g_530))] H := hP
      have hD : va_D A [(mop, .inl ((cs 0), 400, .inl gop)), (m0, .inr (10, (.ref mtp :: .int sta :: .int sru :: .ref msg :: .ref mln :: .ref mcl :: .ref mcs :: .ref mrd :: .int snx :: .int swr :: .int snu :: .int ste :: .int sma :: .int v_89 :: .int sli :: .ref mop :: .int x_516 :: .ref mst :: .int sto :: .ref mwd :: .ref msd :: .int sx_ :: .ref mws :: .int sun :: .ref mfr :: .ref mqu :: .ref miw :: .int sfi :: .int swa :: .long sdx :: .ref mim :: .ref mix :: .ref mmd :: []))), (msg, .inl ((cs 0), 2400, .inl g_529)), (mln, .inl ((cs 0), 7, .inl g_530))] := hD
      have ps_533 := ((iv_447.1.re (k2 := (cN x_516 + sl) + 1) (by omega) rfl)).put (e := (1 + CAO gop (cN x_516))) rfl (st_pop (show x_522 = gop (cN x_516) from e_523) pd_519 (by have h9 := hs_520; rw [(show x_522 = gop (cN x_516) from e_523)]; have h8 := (r_a).1; have h7 := cN_i r_a (by decide); omega)) (by have h9 := ((iv_447.1.re (k2 := (cN x_516 + sl) + 1) (by omega) rfl)).dm; rw [pd_519, CAO_s] at h9; omega)
      have hP := hP.sub (ws' := [(m0, .inr (10, (.ref mtp :: .int sta :: .int sru :: .ref msg :: .ref mln :: .ref mcl :: .ref mcs :: .ref mrd :: .int snx :: .int swr :: .int snu :: .int ste :: .int sma :: .int v_89 :: .int sli :: .ref mop :: .int x_516 :: .ref mst :: .int sto :: .ref mwd :: .ref msd :: .int sx_ :: .ref mws :: .int sun :: .ref mfr :: .ref mqu :: .ref miw :: .int sfi :: .int swa :: .long sdx :: .ref mim :: .ref mix :: .ref mmd :: []))), (msg, .inl ((cs 0), 2400, .inl g_529)), (mln, .inl ((cs 0), 7, .inl g_530)), (mop, .inl ((cs 0), 400, .inl gop))]) [1, 2, 3, 0] rfl
      have hD := hD.sub (ws' := [(m0, .inr (10, (.ref mtp :: .int sta :: .int sru :: .ref msg :: .ref mln :: .ref mcl :: .ref mcs :: .ref mrd :: .int snx :: .int swr :: .int snu :: .int ste :: .int sma :: .int v_89 :: .int sli :: .ref mop :: .int x_516 :: .ref mst :: .int sto :: .ref mwd :: .ref msd :: .int sx_ :: .ref mws :: .int sun :: .ref mfr :: .ref mqu :: .ref miw :: .int sfi :: .int swa :: .long sdx :: .ref mim :: .ref mix :: .ref mmd :: []))), (msg, .inl ((cs 0), 2400, .inl g_529)), (mln, .inl ((cs 0), 7, .inl g_530)), (mop, .inl ((cs 0), 400, .inl gop))]) [1, 2, 3, 0] (by decide) rfl
      refine lv_aload_n hx hb dX12_settles_49 rfl (lv_at hl 0 rfl) ?_
      refine va_get (D := D) (ci := 10) (v := .ref mop) (C := "WrongHoleModel") (T := TX12) (N := 33) hx hb hts (iq_RX12 _) hown hK hP 0 rfl rfl 15 (by decide) (hT _ qq_5_167) (fun _ h9 => h9) rfl dX12_settles_50 ?_
      refine lv_aload_n hx hb dX12_settles_53 rfl (lv_at hl 0 rfl) ?_
      refine va_get (D := D) (ci := 10) (v := .int x_516) (C := "WrongHoleModel") (T := TX12) (N := 33) hx hb hts (iq_RX12 _) hown hK hP 0 rfl rfl 16 (by decide) (hT _ qq_5_168) (fun _ h9 => h9) rfl dX12_settles_54 ?_
      have hi_534 : vp_in x_516 400 := Rg.in r_518 (by decide)
      refine va_iald hx hb hK hP 3 0 rfl rfl hi_534 dX12_settles_57 ?_
      refine lv_topi (fun x_535 e_536 => ?_)
      refine lv_bipush (v := 11) hx hb dX12_settles_58 (by decide) ?_
      refine lv_icmp_ne (tgt := 0) hx hb dX12_settles_60 (by decide) (fun c_537 => ?_) (fun c_537 => ?_)
      · exact ih_445 (v_89, x_516, g_529, g_530) _ _ _ ⟨(Rg.wk (lo2 := 0) (hi2 := 400) r_518 (by decide)), ⟨(PS.eqs (gln := gln) (gsg := gsg) ps_533.1 rp_531 rp_532), (KP.tr iv_447.2.1 (KP.eqs ps_533.2 rp_531 rp_532)), NPP.st iv_447.2.2 (cN_dec e_517 r_450 (by decide)) hs_520⟩, hP, hD, hS, lv_sub hl [0, 1] rfl⟩ ((show cN x_516 < cN v_90 from by have h9 := (cN_dec e_517 r_450 (by decide)); omega))
      · have r_538 : Rg 11 11 x_535 := Rg.eq_l c_537 (Rg.top x_535) (Rg.c (c := 11) (k := 11) rfl) (by decide)
        refine lv_aload_n hx hb dX12_settles_63 rfl (lv_at hl 0 rfl) ?_
        refine lv_dup hx hb dX12_settles_64 rfl ?_
        refine va_get (D := D) (ci := 10) (v := .int v_89) (C := "WrongHoleModel") (T := TX12) (N := 33) hx hb hts (iq_RX12 _) hown hK hP 0 rfl rfl 13 (by decide) (hT _ qq_5_165) (fun _ h9 => h9) rfl dX12_settles_65 ?_
        refine lv_iconst (v := 1) hx hb dX12_settles_68 (by decide) ?_
        refine lv_isub hx hb dX12_settles_69 ?_
        refine lv_topi (fun x_539 e_540 => ?_)
        refine va_put (D := D) (ci := 10) (v := .int x_539) (ty := .int) (C := "WrongHoleModel") (T := TX12) (N := 33) hx hb hts (iq_RX12 _) tyX12 tyX12_ok nmX12 hown hK hP hD hS 0 rfl rfl 13 (by decide) (hT _ qq_5_165) (fun _ h9 => h9) rfl (by decide +kernel) rfl rfl (Nat.le_of_ble_eq_true rfl) dX12_settles_70 (fun H locs hP hD hS => ?_)
        have hP : va_P D vwCl [(m0, .inr (10, (.ref mtp :: .int sta :: .int sru :: .ref msg :: .ref mln :: .ref mcl :: .ref mcs :: .ref mrd :: .int snx :: .int swr :: .int snu :: .int ste :: .int sma :: .int x_539 :: .int sli :: .ref mop :: .int x_516 :: .ref mst :: .int sto :: .ref mwd :: .ref msd :: .int sx_ :: .ref mws :: .int sun :: .ref mfr :: .ref mqu :: .ref miw :: .int sfi :: .int swa :: .long sdx :: .ref mim :: .ref mix :: .ref mmd :: []))), (msg, .inl ((cs 0), 2400, .inl g_529)), (mln, .inl ((cs 0), 7, .inl g_530)), (mop, .inl ((cs 0), 400, .inl gop))] H := hP
        have hD : va_D A [(m0, .inr (10, (.ref mtp :: .int sta :: .int sru :: .ref msg :: .ref mln :: .ref mcl :: .ref mcs :: .ref mrd :: .int snx :: .int swr :: .int snu :: .int ste :: .int sma :: .int x_539 :: .int sli :: .ref mop :: .int x_516 :: .ref mst :: .int sto :: .ref mwd :: .ref msd :: .int sx_ :: .ref mws :: .int sun :: .ref mfr :: .ref mqu :: .ref miw :: .int sfi :: .int swa :: .long sdx :: .ref mim :: .ref mix :: .ref mmd :: []))), (msg, .inl ((cs 0), 2400, .inl g_529)), (mln, .inl ((cs 0), 7, .inl g_530)), (mop, .inl ((cs 0), 400, .inl gop))] := hD
        refine lv_goto (tgt := 0) hx hb dX12_settles_73 (by decide) ?_
        exact ih_445 (x_539, x_516, g_529, g_530) _ _ _ ⟨(Rg.wk (lo2 := 0) (hi2 := 400) r_518 (by decide)), ⟨(PS.eqs (gln := gln) (gsg := gsg) ps_533.1 rp_531 rp_532), (KP.tr iv_447.2.1 (KP.eqs ps_533.2 rp_531 rp_532)), NPP.st iv_447.2.2 (cN_dec e_517 r_450 (by decide)) hs_520⟩, hP, hD, hS, lv_sub hl [0, 1] rfl⟩ ((show cN x_516 < cN v_90 from by have h9 := (cN_dec e_517 r_450 (by decide)); omega))
