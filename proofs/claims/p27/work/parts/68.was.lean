theorem dX12_keepsAct_0 : decode cX12_keepsAct 0 = .ok (.aload_n 0, 1) := by decide +kernel
theorem dX12_keepsAct_1 : decode cX12_keepsAct 1 = .ok (.getfield 301, 3) := by decide +kernel
theorem qq_5_175 : Cond.fieldLink "WrongHoleModel" 301 "WrongHoleModel" "undone" "I" ∈ TB := mk_tb (ti_5 (List.mem_of_getElem? (i := 175) rfl)) rfl
theorem dX12_keepsAct_4 : decode cX12_keepsAct 4 = .ok (.bipush 20, 2) := by decide +kernel
theorem dX12_keepsAct_6 : decode cX12_keepsAct 6 = .ok (.if_icmp .ne 44, 3) := by decide +kernel
theorem dX12_keepsAct_50 : decode cX12_keepsAct 50 = .ok (.iconst 0, 1) := by decide +kernel
theorem dX12_keepsAct_51 : decode cX12_keepsAct 51 = .ok (.istore_n 1, 1) := by decide +kernel
theorem dX12_keepsAct_52 : decode cX12_keepsAct 52 = .ok (.iload_n 1, 1) := by decide +kernel
theorem dX12_keepsAct_53 : decode cX12_keepsAct 53 = .ok (.bipush 8, 2) := by decide +kernel
theorem dX12_keepsAct_55 : decode cX12_keepsAct 55 = .ok (.if_icmp .ge 32, 3) := by decide +kernel
theorem dX12_keepsAct_87 : decode cX12_keepsAct 87 = .ok (.aload_n 0, 1) := by decide +kernel
theorem dX12_keepsAct_88 : decode cX12_keepsAct 88 = .ok (.getfield 42, 3) := by decide +kernel
theorem qq_5_174 : Cond.fieldLink "WrongHoleModel" 42 "WrongHoleModel" "wasSaid" "[I" ∈ TB := mk_tb (ti_5 (List.mem_of_getElem? (i := 174) rfl)) rfl
theorem dX12_keepsAct_91 : decode cX12_keepsAct 91 = .ok (.bipush 9, 2) := by decide +kernel
theorem dX12_keepsAct_93 : decode cX12_keepsAct 93 = .ok (.aload_n 0, 1) := by decide +kernel
theorem dX12_keepsAct_94 : decode cX12_keepsAct 94 = .ok (.getfield 301, 3) := by decide +kernel
theorem dX12_keepsAct_97 : decode cX12_keepsAct 97 = .ok (.imul, 1) := by decide +kernel
theorem dX12_keepsAct_98 : decode cX12_keepsAct 98 = .ok (.bipush 8, 2) := by decide +kernel
theorem dX12_keepsAct_100 : decode cX12_keepsAct 100 = .ok (.iadd, 1) := by decide +kernel
theorem dX12_keepsAct_101 : decode cX12_keepsAct 101 = .ok (.aload_n 0, 1) := by decide +kernel
theorem dX12_keepsAct_102 : decode cX12_keepsAct 102 = .ok (.getfield 39, 3) := by decide +kernel
theorem dX12_keepsAct_105 : decode cX12_keepsAct 105 = .ok (.iconst 3, 1) := by decide +kernel
theorem dX12_keepsAct_106 : decode cX12_keepsAct 106 = .ok (.iaload, 1) := by decide +kernel
theorem dX12_keepsAct_107 : decode cX12_keepsAct 107 = .ok (.iastore, 1) := by decide +kernel
theorem dX12_keepsAct_108 : decode cX12_keepsAct 108 = .ok (.aload_n 0, 1) := by decide +kernel
theorem dX12_keepsAct_109 : decode cX12_keepsAct 109 = .ok (.dup, 1) := by decide +kernel
theorem dX12_keepsAct_110 : decode cX12_keepsAct 110 = .ok (.getfield 301, 3) := by decide +kernel
theorem dX12_keepsAct_113 : decode cX12_keepsAct 113 = .ok (.iconst 1, 1) := by decide +kernel
theorem dX12_keepsAct_114 : decode cX12_keepsAct 114 = .ok (.iadd, 1) := by decide +kernel
theorem dX12_keepsAct_115 : decode cX12_keepsAct 115 = .ok (.putfield 301, 3) := by decide +kernel
theorem dX12_keepsAct_118 : decode cX12_keepsAct 118 = .ok (.return_, 1) := by decide +kernel
theorem dX12_keepsAct_58 : decode cX12_keepsAct 58 = .ok (.aload_n 0, 1) := by decide +kernel
theorem dX12_keepsAct_59 : decode cX12_keepsAct 59 = .ok (.getfield 42, 3) := by decide +kernel
theorem dX12_keepsAct_62 : decode cX12_keepsAct 62 = .ok (.bipush 9, 2) := by decide +kernel
theorem dX12_keepsAct_64 : decode cX12_keepsAct 64 = .ok (.aload_n 0, 1) := by decide +kernel
theorem dX12_keepsAct_65 : decode cX12_keepsAct 65 = .ok (.getfield 301, 3) := by decide +kernel
theorem dX12_keepsAct_68 : decode cX12_keepsAct 68 = .ok (.imul, 1) := by decide +kernel
theorem dX12_keepsAct_69 : decode cX12_keepsAct 69 = .ok (.iload_n 1, 1) := by decide +kernel
theorem dX12_keepsAct_70 : decode cX12_keepsAct 70 = .ok (.iadd, 1) := by decide +kernel
theorem dX12_keepsAct_71 : decode cX12_keepsAct 71 = .ok (.aload_n 0, 1) := by decide +kernel
theorem dX12_keepsAct_72 : decode cX12_keepsAct 72 = .ok (.getfield 39, 3) := by decide +kernel
theorem dX12_keepsAct_75 : decode cX12_keepsAct 75 = .ok (.bipush 10, 2) := by decide +kernel
theorem dX12_keepsAct_77 : decode cX12_keepsAct 77 = .ok (.iload_n 1, 1) := by decide +kernel
theorem dX12_keepsAct_78 : decode cX12_keepsAct 78 = .ok (.iadd, 1) := by decide +kernel
theorem dX12_keepsAct_79 : decode cX12_keepsAct 79 = .ok (.iaload, 1) := by decide +kernel
theorem dX12_keepsAct_80 : decode cX12_keepsAct 80 = .ok (.iastore, 1) := by decide +kernel
theorem dX12_keepsAct_81 : decode cX12_keepsAct 81 = .ok (.iinc 1 1, 3) := by decide +kernel
theorem dX12_keepsAct_84 : decode cX12_keepsAct 84 = .ok (.goto (-32), 3) := by decide +kernel
theorem dX12_keepsAct_9 : decode cX12_keepsAct 9 = .ok (.bipush 9, 2) := by decide +kernel
theorem dX12_keepsAct_11 : decode cX12_keepsAct 11 = .ok (.istore_n 1, 1) := by decide +kernel
theorem dX12_keepsAct_12 : decode cX12_keepsAct 12 = .ok (.iload_n 1, 1) := by decide +kernel
theorem dX12_keepsAct_13 : decode cX12_keepsAct 13 = .ok (.sipush 180, 3) := by decide +kernel
theorem dX12_keepsAct_16 : decode cX12_keepsAct 16 = .ok (.if_icmp .ge 24, 3) := by decide +kernel
theorem dX12_keepsAct_40 : decode cX12_keepsAct 40 = .ok (.aload_n 0, 1) := by decide +kernel
theorem dX12_keepsAct_41 : decode cX12_keepsAct 41 = .ok (.dup, 1) := by decide +kernel
theorem dX12_keepsAct_42 : decode cX12_keepsAct 42 = .ok (.getfield 301, 3) := by decide +kernel
theorem dX12_keepsAct_45 : decode cX12_keepsAct 45 = .ok (.iconst 1, 1) := by decide +kernel
theorem dX12_keepsAct_46 : decode cX12_keepsAct 46 = .ok (.isub, 1) := by decide +kernel
theorem dX12_keepsAct_47 : decode cX12_keepsAct 47 = .ok (.putfield 301, 3) := by decide +kernel
theorem dX12_keepsAct_19 : decode cX12_keepsAct 19 = .ok (.aload_n 0, 1) := by decide +kernel
theorem dX12_keepsAct_20 : decode cX12_keepsAct 20 = .ok (.getfield 42, 3) := by decide +kernel
theorem dX12_keepsAct_23 : decode cX12_keepsAct 23 = .ok (.iload_n 1, 1) := by decide +kernel
theorem dX12_keepsAct_24 : decode cX12_keepsAct 24 = .ok (.bipush 9, 2) := by decide +kernel
theorem dX12_keepsAct_26 : decode cX12_keepsAct 26 = .ok (.isub, 1) := by decide +kernel
theorem dX12_keepsAct_27 : decode cX12_keepsAct 27 = .ok (.aload_n 0, 1) := by decide +kernel
theorem dX12_keepsAct_28 : decode cX12_keepsAct 28 = .ok (.getfield 42, 3) := by decide +kernel
theorem dX12_keepsAct_31 : decode cX12_keepsAct 31 = .ok (.iload_n 1, 1) := by decide +kernel
theorem dX12_keepsAct_32 : decode cX12_keepsAct 32 = .ok (.iaload, 1) := by decide +kernel
theorem dX12_keepsAct_33 : decode cX12_keepsAct 33 = .ok (.iastore, 1) := by decide +kernel
theorem dX12_keepsAct_34 : decode cX12_keepsAct 34 = .ok (.iinc 1 1, 3) := by decide +kernel
theorem dX12_keepsAct_37 : decode cX12_keepsAct 37 = .ok (.goto (-25), 3) := by decide +kernel
set_option maxHeartbeats 4000000 in
set_option maxRecDepth 100000 in
theorem c_M_keepsAct (l : Launch) (D : va_G) (cs : Nat → ClassId) (X : XX) (sz : Nat) (m0 : Nat) (mtp : Nat) (sta : Int32) (sru : Int32) (msg : Nat) (mln : Nat) (mcl : Nat) (mcs : Nat) (mrd : Nat) (snx : Int32) (swr : Int32) (snu : Int32) (ste : Int32) (sma : Int32) (sde : Int32) (sli : Int32) (mop : Nat) (sod : Int32) (mst : Nat) (sto : Int32) (mwd : Nat) (msd : Nat) (sx_ : Int32) (mws : Nat) (sun : Int32) (mfr : Nat) (mqu : Nat) (miw : Nat) (sfi : Int32) (swa : Int32) (sdx : Int64) (mim : Nat) (mix : Nat) (mmd : Nat) (gsd : Nat → Int32) (gws : Nat → Int32) (hsi : SI gsd) (r_sun : Rg 0 20 sun) (hws : WSI gsd gws (cN sun)) : Met l yX12_keepsAct (Cond.code yX12_keepsAct cX12_keepsAct 2 none :: TB) (RM 0 0 0) (va_Pc [.ref m0] (PRE D cs X [(m0, .inr (10, (.ref mtp :: .int sta :: .int sru :: .ref msg :: .ref mln :: .ref mcl :: .ref mcs :: .ref mrd :: .int snx :: .int swr :: .int snu :: .int ste :: .int sma :: .int sde :: .int sli :: .ref mop :: .int sod :: .ref mst :: .int sto :: .ref mwd :: .ref msd :: .int sx_ :: .ref mws :: .int sun :: .ref mfr :: .ref mqu :: .ref miw :: .int sfi :: .int swa :: .long sdx :: .ref mim :: .ref mix :: .ref mmd :: []))), (msd, .inl ((cs 0), 133, .inl gsd)), (mws, .inl ((cs 0), 180, .inl gws))] [] sz)) (va_Qv (S := Unit) (fun _ => True) (fun _ t => ∃ (sun2 : Int32), ∃ (gws2 : Nat → Int32), Rg 0 20 sun2 ∧ (WSI gsd gws2 (cN sun2)) ∧ va_P D vwCl [(m0, .inr (10, (.ref mtp :: .int sta :: .int sru :: .ref msg :: .ref mln :: .ref mcl :: .ref mcs :: .ref mrd :: .int snx :: .int swr :: .int snu :: .int ste :: .int sma :: .int sde :: .int sli :: .ref mop :: .int sod :: .ref mst :: .int sto :: .ref mwd :: .ref msd :: .int sx_ :: .ref mws :: .int sun2 :: .ref mfr :: .ref mqu :: .ref miw :: .int sfi :: .int swa :: .long sdx :: .ref mim :: .ref mix :: .ref mmd :: []))), (msd, .inl ((cs 0), 133, .inl gsd)), (mws, .inl ((cs 0), 180, .inl gws2))] t.heap ∧ va_D (va_A [(m0, .inr (10, (.ref mtp :: .int sta :: .int sru :: .ref msg :: .ref mln :: .ref mcl :: .ref mcs :: .ref mrd :: .int snx :: .int swr :: .int snu :: .int ste :: .int sma :: .int sde :: .int sli :: .ref mop :: .int sod :: .ref mst :: .int sto :: .ref mwd :: .ref msd :: .int sx_ :: .ref mws :: .int sun :: .ref mfr :: .ref mqu :: .ref miw :: .int sfi :: .int swa :: .long sdx :: .ref mim :: .ref mix :: .ref mmd :: []))), (msd, .inl ((cs 0), 133, .inl gsd)), (mws, .inl ((cs 0), 180, .inl gws))] sz) [(m0, .inr (10, (.ref mtp :: .int sta :: .int sru :: .ref msg :: .ref mln :: .ref mcl :: .ref mcs :: .ref mrd :: .int snx :: .int swr :: .int snu :: .int ste :: .int sma :: .int sde :: .int sli :: .ref mop :: .int sod :: .ref mst :: .int sto :: .ref mwd :: .ref msd :: .int sx_ :: .ref mws :: .int sun2 :: .ref mfr :: .ref mqu :: .ref miw :: .int sfi :: .int swa :: .long sdx :: .ref mim :: .ref mix :: .ref mmd :: []))), (msd, .inl ((cs 0), 133, .inl gsd)), (mws, .inl ((cs 0), 180, .inl gws2))]) (va_A [(m0, .inr (10, (.ref mtp :: .int sta :: .int sru :: .ref msg :: .ref mln :: .ref mcl :: .ref mcs :: .ref mrd :: .int snx :: .int swr :: .int snu :: .int ste :: .int sma :: .int sde :: .int sli :: .ref mop :: .int sod :: .ref mst :: .int sto :: .ref mwd :: .ref msd :: .int sx_ :: .ref mws :: .int sun :: .ref mfr :: .ref mqu :: .ref miw :: .int sfi :: .int swa :: .long sdx :: .ref mim :: .ref mix :: .ref mmd :: []))), (msd, .inl ((cs 0), 133, .inl gsd)), (mws, .inl ((cs 0), 180, .inl gws))] sz)) 0 0 (va_A [(m0, .inr (10, (.ref mtp :: .int sta :: .int sru :: .ref msg :: .ref mln :: .ref mcl :: .ref mcs :: .ref mrd :: .int snx :: .int swr :: .int snu :: .int ste :: .int sma :: .int sde :: .int sli :: .ref mop :: .int sod :: .ref mst :: .int sto :: .ref mwd :: .ref msd :: .int sx_ :: .ref mws :: .int sun :: .ref mfr :: .ref mqu :: .ref miw :: .int sfi :: .int swa :: .long sdx :: .ref mim :: .ref mix :: .ref mmd :: []))), (msd, .inl ((cs 0), 133, .inl gsd)), (mws, .inl ((cs 0), 180, .inl gws))] sz) := by
  refine MET (y := yX12_keepsAct) (cc := cX12_keepsAct) (maxL := 2) (ret := none) (d := 0) (mc := 0) (ms := 0) (D := D) (cs := cs) (X := X) (ws := [(m0, .inr (10, (.ref mtp :: .int sta :: .int sru :: .ref msg :: .ref mln :: .ref mcl :: .ref mcs :: .ref mrd :: .int snx :: .int swr :: .int snu :: .int ste :: .int sma :: .int sde :: .int sli :: .ref mop :: .int sod :: .ref mst :: .int sto :: .ref mwd :: .ref msd :: .int sx_ :: .ref mws :: .int sun :: .ref mfr :: .ref mqu :: .ref miw :: .int sfi :: .int swa :: .long sdx :: .ref mim :: .ref mix :: .ref mmd :: []))), (msd, .inl ((cs 0), 133, .inl gsd)), (mws, .inl ((cs 0), 180, .inl gws))]) (wo := []) (sz := sz) (av := [.ref m0]) (Qc := fun A => va_Qv (S := Unit) (fun _ => True) (fun _ t => ∃ (sun2 : Int32), ∃ (gws2 : Nat → Int32), Rg 0 20 sun2 ∧ (WSI gsd gws2 (cN sun2)) ∧ va_P D vwCl [(m0, .inr (10, (.ref mtp :: .int sta :: .int sru :: .ref msg :: .ref mln :: .ref mcl :: .ref mcs :: .ref mrd :: .int snx :: .int swr :: .int snu :: .int ste :: .int sma :: .int sde :: .int sli :: .ref mop :: .int sod :: .ref mst :: .int sto :: .ref mwd :: .ref msd :: .int sx_ :: .ref mws :: .int sun2 :: .ref mfr :: .ref mqu :: .ref miw :: .int sfi :: .int swa :: .long sdx :: .ref mim :: .ref mix :: .ref mmd :: []))), (msd, .inl ((cs 0), 133, .inl gsd)), (mws, .inl ((cs 0), 180, .inl gws2))] t.heap ∧ va_D A [(m0, .inr (10, (.ref mtp :: .int sta :: .int sru :: .ref msg :: .ref mln :: .ref mcl :: .ref mcs :: .ref mrd :: .int snx :: .int swr :: .int snu :: .int ste :: .int sma :: .int sde :: .int sli :: .ref mop :: .int sod :: .ref mst :: .int sto :: .ref mwd :: .ref msd :: .int sx_ :: .ref mws :: .int sun2 :: .ref mfr :: .ref mqu :: .ref miw :: .int sfi :: .int swa :: .long sdx :: .ref mim :: .ref mix :: .ref mmd :: []))), (msd, .inl ((cs 0), 133, .inl gsd)), (mws, .inl ((cs 0), 180, .inl gws2))]) A) (by decide) (Nat.le_of_ble_eq_true rfl) ?_
  intro p e s m below meth c ls A H hHe hx hb hr hml hown hts hlocks hnm hP hK hD hA hS hN hR hX hXs hl
  have hD : va_D A [(m0, .inr (10, (.ref mtp :: .int sta :: .int sru :: .ref msg :: .ref mln :: .ref mcl :: .ref mcs :: .ref mrd :: .int snx :: .int swr :: .int snu :: .int ste :: .int sma :: .int sde :: .int sli :: .ref mop :: .int sod :: .ref mst :: .int sto :: .ref mwd :: .ref msd :: .int sx_ :: .ref mws :: .int sun :: .ref mfr :: .ref mqu :: .ref miw :: .int sfi :: .int swa :: .long sdx :: .ref mim :: .ref mix :: .ref mmd :: []))), (msd, .inl ((cs 0), 133, .inl gsd)), (mws, .inl ((cs 0), 180, .inl gws))] := hD
  obtain ⟨locs, hlc⟩ : ∃ z : List Loc, z = [] := ⟨_, rfl⟩
  rw [← hlc] at hS ⊢
  have hown : s.vm.findClass "WrongHoleModel" = some m.cls := hown
  have hT : ∀ w ∈ TB, w.before ([.ref m0] : List Value).toArray s = true := fun w h => hts w (List.mem_cons_of_mem _ h)
  have hl : lv_has ls 2 [(0, .ref m0)] := hl
  have hP : va_P D vwCl [(m0, .inr (10, (.ref mtp :: .int sta :: .int sru :: .ref msg :: .ref mln :: .ref mcl :: .ref mcs :: .ref mrd :: .int snx :: .int swr :: .int snu :: .int ste :: .int sma :: .int sde :: .int sli :: .ref mop :: .int sod :: .ref mst :: .int sto :: .ref mwd :: .ref msd :: .int sx_ :: .ref mws :: .int sun :: .ref mfr :: .ref mqu :: .ref miw :: .int sfi :: .int swa :: .long sdx :: .ref mim :: .ref mix :: .ref mmd :: []))), (msd, .inl ((cs 0), 133, .inl gsd)), (mws, .inl ((cs 0), 180, .inl gws))] H := hP
  refine lv_aload_n hx hb dX12_keepsAct_0 rfl (lv_at hl 0 rfl) ?_
  refine va_get (D := D) (ci := 10) (v := .int sun) (C := "WrongHoleModel") (T := TX12) (N := 33) hx hb hts (iq_RX12 _) hown hK hP 0 rfl rfl 23 (by decide) (hT _ qq_5_175) (fun _ h9 => h9) rfl dX12_keepsAct_1 ?_
  refine lv_bipush (v := 20) hx hb dX12_keepsAct_4 (by decide) ?_
  refine w_cut (σ := (Int32) × (Nat → Int32)) (fun x9 H locs ls => match x9 with | (v_141, g_142) => Rg 0 19 v_141 ∧ (WSI gsd g_142 (cN v_141)) ∧ va_P D vwCl [(m0, .inr (10, (.ref mtp :: .int sta :: .int sru :: .ref msg :: .ref mln :: .ref mcl :: .ref mcs :: .ref mrd :: .int snx :: .int swr :: .int snu :: .int ste :: .int sma :: .int sde :: .int sli :: .ref mop :: .int sod :: .ref mst :: .int sto :: .ref mwd :: .ref msd :: .int sx_ :: .ref mws :: .int v_141 :: .ref mfr :: .ref mqu :: .ref miw :: .int sfi :: .int swa :: .long sdx :: .ref mim :: .ref mix :: .ref mmd :: []))), (msd, .inl ((cs 0), 133, .inl gsd)), (mws, .inl ((cs 0), 180, .inl g_142))] H ∧ va_D A [(m0, .inr (10, (.ref mtp :: .int sta :: .int sru :: .ref msg :: .ref mln :: .ref mcl :: .ref mcs :: .ref mrd :: .int snx :: .int swr :: .int snu :: .int ste :: .int sma :: .int sde :: .int sli :: .ref mop :: .int sod :: .ref mst :: .int sto :: .ref mwd :: .ref msd :: .int sx_ :: .ref mws :: .int v_141 :: .ref mfr :: .ref mqu :: .ref miw :: .int sfi :: .int swa :: .long sdx :: .ref mim :: .ref mix :: .ref mmd :: []))), (msd, .inl ((cs 0), 133, .inl gsd)), (mws, .inl ((cs 0), 180, .inl g_142))] ∧ va_S A s.heap H locs ∧ lv_has ls 2 [(0, .ref m0)]) 50 (fun x9 => match x9 with | (v_141, g_142) => []) ?_ (fun hj_143 => ?_)
  · rintro ⟨v_141, g_142⟩ H locs ls ⟨r_144, iv_145, hP, hD, hS, hl⟩
    refine lv_iconst (v := 0) hx hb dX12_keepsAct_50 (by decide) ?_
    refine lv_istore_n (lv' := [(1, .int 0), (0, .ref m0)]) hx hb dX12_keepsAct_51 rfl hl (by decide) rfl (fun ls hl => ?_)
    refine w_wh (σ := (Int32) × (Nat → Int32)) (fun x9 H locs ls => match x9 with | (v_157, g_158) => Rg 0 8 v_157 ∧ ((∀ j, j < 9 * cN v_141 → g_158 j = g_142 j) ∧ ∀ c, c < cN v_157 → g_158 (9 * cN v_141 + c) = gsd (10 + c)) ∧ va_P D vwCl [(m0, .inr (10, (.ref mtp :: .int sta :: .int sru :: .ref msg :: .ref mln :: .ref mcl :: .ref mcs :: .ref mrd :: .int snx :: .int swr :: .int snu :: .int ste :: .int sma :: .int sde :: .int sli :: .ref mop :: .int sod :: .ref mst :: .int sto :: .ref mwd :: .ref msd :: .int sx_ :: .ref mws :: .int v_141 :: .ref mfr :: .ref mqu :: .ref miw :: .int sfi :: .int swa :: .long sdx :: .ref mim :: .ref mix :: .ref mmd :: []))), (msd, .inl ((cs 0), 133, .inl gsd)), (mws, .inl ((cs 0), 180, .inl g_158))] H ∧ va_D A [(m0, .inr (10, (.ref mtp :: .int sta :: .int sru :: .ref msg :: .ref mln :: .ref mcl :: .ref mcs :: .ref mrd :: .int snx :: .int swr :: .int snu :: .int ste :: .int sma :: .int sde :: .int sli :: .ref mop :: .int sod :: .ref mst :: .int sto :: .ref mwd :: .ref msd :: .int sx_ :: .ref mws :: .int v_141 :: .ref mfr :: .ref mqu :: .ref miw :: .int sfi :: .int swa :: .long sdx :: .ref mim :: .ref mix :: .ref mmd :: []))), (msd, .inl ((cs 0), 133, .inl gsd)), (mws, .inl ((cs 0), 180, .inl g_158))] ∧ va_S A s.heap H locs ∧ lv_has ls 2 [(1, .int v_157), (0, .ref m0)]) (fun x9 => match x9 with | (v_157, g_158) => (8 - Int32.toInt v_157).toNat) 52 ?_ (0, g_142) H locs ls ⟨(Rg.wk (lo2 := 0) (hi2 := 8) (Rg.c (c := 0) (k := 0) rfl) (by decide)), ⟨fun _ _ => rfl, fun c hc => absurd hc (Nat.not_lt_zero c)⟩, hP, hD, hS, lv_sub hl [0, 1] rfl⟩
    rintro ⟨v_157, g_158⟩ H locs ls ⟨r_454, iv_455, hP, hD, hS, hl⟩ ih_453
    refine lv_iload_n hx hb dX12_keepsAct_52 rfl (lv_at hl 0 rfl) ?_
    refine lv_bipush (v := 8) hx hb dX12_keepsAct_53 (by decide) ?_
    refine lv_icmp_ge (tgt := 87) hx hb dX12_keepsAct_55 (by decide) (fun c_456 => ?_) (fun c_456 => ?_)
    · have r_457 : Rg 8 8 v_157 := Rg.le_r c_456 (Rg.c (c := 8) (k := 8) rfl) r_454 (by decide)
      refine lv_aload_n hx hb dX12_keepsAct_87 rfl (lv_at hl 1 rfl) ?_
      refine va_get (D := D) (ci := 10) (v := .ref mws) (C := "WrongHoleModel") (T := TX12) (N := 33) hx hb hts (iq_RX12 _) hown hK hP 0 rfl rfl 22 (by decide) (hT _ qq_5_174) (fun _ h9 => h9) rfl dX12_keepsAct_88 ?_
      refine lv_bipush (v := 9) hx hb dX12_keepsAct_91 (by decide) ?_
      refine lv_aload_n hx hb dX12_keepsAct_93 rfl (lv_at hl 1 rfl) ?_
      refine va_get (D := D) (ci := 10) (v := .int v_141) (C := "WrongHoleModel") (T := TX12) (N := 33) hx hb hts (iq_RX12 _) hown hK hP 0 rfl rfl 23 (by decide) (hT _ qq_5_175) (fun _ h9 => h9) rfl dX12_keepsAct_94 ?_
      refine lv_imul hx hb dX12_keepsAct_97 ?_
      refine lv_topi (fun x_476 e_477 => ?_)
      have r_478 : Rg 0 171 x_476 := Rg.mul (ha := 9) (hb := 19) e_477 (Rg.wk (lo2 := 0) (hi2 := 9) (Rg.c (c := 9) (k := 9) rfl) (by decide)) r_144 (by decide)
      refine lv_bipush (v := 8) hx hb dX12_keepsAct_98 (by decide) ?_
      refine lv_iadd hx hb dX12_keepsAct_100 ?_
      refine lv_topi (fun x_479 e_480 => ?_)
      have r_481 : Rg 8 179 x_479 := Rg.add e_480 r_478 (Rg.c (c := 8) (k := 8) rfl) (by decide)
      refine lv_aload_n hx hb dX12_keepsAct_101 rfl (lv_at hl 1 rfl) ?_
      refine va_get (D := D) (ci := 10) (v := .ref msd) (C := "WrongHoleModel") (T := TX12) (N := 33) hx hb hts (iq_RX12 _) hown hK hP 0 rfl rfl 20 (by decide) (hT _ qq_5_172) (fun _ h9 => h9) rfl dX12_keepsAct_102 ?_
      refine lv_iconst (v := 3) hx hb dX12_keepsAct_105 (by decide) ?_
      have hi_482 : vp_in 3 133 := vi_c rfl
      refine va_iald hx hb hK hP 1 0 rfl rfl hi_482 dX12_keepsAct_106 ?_
      refine lv_topi (fun x_483 e_484 => ?_)
      have r_485 : Rg 0 9999 x_483 := Rg.of e_484 (hsi.a3)
      have hi_486 : vp_in x_479 180 := Rg.in r_481 (by decide)
      refine va_iast hx hb hK hP hD hS 2 0 rfl rfl hi_486 dX12_keepsAct_107 (fun H locs hP hD hS => ?_)
      obtain ⟨g_487, rb_488, hP, hD⟩ : ∃ g_487 : Nat → Int32, (∀ w9, cN w9 = cN v_141 + 1 → WSI gsd g_487 (cN w9)) ∧ va_P D vwCl [(m0, .inr (10, (.ref mtp :: .int sta :: .int sru :: .ref msg :: .ref mln :: .ref mcl :: .ref mcs :: .ref mrd :: .int snx :: .int swr :: .int snu :: .int ste :: .int sma :: .int sde :: .int sli :: .ref mop :: .int sod :: .ref mst :: .int sto :: .ref mwd :: .ref msd :: .int sx_ :: .ref mws :: .int v_141 :: .ref mfr :: .ref mqu :: .ref miw :: .int sfi :: .int swa :: .long sdx :: .ref mim :: .ref mix :: .ref mmd :: []))), (msd, .inl ((cs 0), 133, .inl gsd)), (mws, .inl ((cs 0), 180, .inl g_487))] H ∧ va_D A [(m0, .inr (10, (.ref mtp :: .int sta :: .int sru :: .ref msg :: .ref mln :: .ref mcl :: .ref mcs :: .ref mrd :: .int snx :: .int swr :: .int snu :: .int ste :: .int sma :: .int sde :: .int sli :: .ref mop :: .int sod :: .ref mst :: .int sto :: .ref mwd :: .ref msd :: .int sx_ :: .ref mws :: .int v_141 :: .ref mfr :: .ref mqu :: .ref miw :: .int sfi :: .int swa :: .long sdx :: .ref mim :: .ref mix :: .ref mmd :: []))), (msd, .inl ((cs 0), 133, .inl gsd)), (mws, .inl ((cs 0), 180, .inl g_487))] := ⟨_, fun w9 h9 => kb_end hsi iv_145 iv_455 (le_cN c_456 (Rg.c (c := 8) (k := 8) rfl) r_457 (by decide)) (ix9 e_477 e_480 r_144 (Rg.c (c := 8) (k := 8) rfl) (by decide)) e_484 h9, hP, hD⟩
      refine lv_aload_n hx hb dX12_keepsAct_108 rfl (lv_at hl 1 rfl) ?_
      refine lv_dup hx hb dX12_keepsAct_109 rfl ?_
      refine va_get (D := D) (ci := 10) (v := .int v_141) (C := "WrongHoleModel") (T := TX12) (N := 33) hx hb hts (iq_RX12 _) hown hK hP 0 rfl rfl 23 (by decide) (hT _ qq_5_175) (fun _ h9 => h9) rfl dX12_keepsAct_110 ?_
      refine lv_iconst (v := 1) hx hb dX12_keepsAct_113 (by decide) ?_
      refine lv_iadd hx hb dX12_keepsAct_114 ?_
      refine lv_topi (fun x_489 e_490 => ?_)
      have r_491 : Rg 1 20 x_489 := Rg.add e_490 r_144 (Rg.c (c := 1) (k := 1) rfl) (by decide)
      refine va_put (D := D) (ci := 10) (v := .int x_489) (ty := .int) (C := "WrongHoleModel") (T := TX12) (N := 33) hx hb hts (iq_RX12 _) tyX12 tyX12_ok nmX12 hown hK hP hD hS 0 rfl rfl 23 (by decide) (hT _ qq_5_175) (fun _ h9 => h9) rfl (by decide +kernel) rfl rfl (Nat.le_of_ble_eq_true rfl) dX12_keepsAct_115 (fun H locs hP hD hS => ?_)
      have hP : va_P D vwCl [(m0, .inr (10, (.ref mtp :: .int sta :: .int sru :: .ref msg :: .ref mln :: .ref mcl :: .ref mcs :: .ref mrd :: .int snx :: .int swr :: .int snu :: .int ste :: .int sma :: .int sde :: .int sli :: .ref mop :: .int sod :: .ref mst :: .int sto :: .ref mwd :: .ref msd :: .int sx_ :: .ref mws :: .int x_489 :: .ref mfr :: .ref mqu :: .ref miw :: .int sfi :: .int swa :: .long sdx :: .ref mim :: .ref mix :: .ref mmd :: []))), (msd, .inl ((cs 0), 133, .inl gsd)), (mws, .inl ((cs 0), 180, .inl g_487))] H := hP
      have hD : va_D A [(m0, .inr (10, (.ref mtp :: .int sta :: .int sru :: .ref msg :: .ref mln :: .ref mcl :: .ref mcs :: .ref mrd :: .int snx :: .int swr :: .int snu :: .int ste :: .int sma :: .int sde :: .int sli :: .ref mop :: .int sod :: .ref mst :: .int sto :: .ref mwd :: .ref msd :: .int sx_ :: .ref mws :: .int x_489 :: .ref mfr :: .ref mqu :: .ref miw :: .int sfi :: .int swa :: .long sdx :: .ref mim :: .ref mix :: .ref mmd :: []))), (msd, .inl ((cs 0), 133, .inl gsd)), (mws, .inl ((cs 0), 180, .inl g_487))] := hD
      refine W.widen (k := 0) (n := 0) (Nat.le_of_ble_eq_true rfl) (Nat.le_of_ble_eq_true rfl) ?_
      have hP9 := hP.sub (ws' := [(m0, .inr (10, (.ref mtp :: .int sta :: .int sru :: .ref msg :: .ref mln :: .ref mcl :: .ref mcs :: .ref mrd :: .int snx :: .int swr :: .int snu :: .int ste :: .int sma :: .int sde :: .int sli :: .ref mop :: .int sod :: .ref mst :: .int sto :: .ref mwd :: .ref msd :: .int sx_ :: .ref mws :: .int x_489 :: .ref mfr :: .ref mqu :: .ref miw :: .int sfi :: .int swa :: .long sdx :: .ref mim :: .ref mix :: .ref mmd :: []))), (msd, .inl ((cs 0), 133, .inl gsd)), (mws, .inl ((cs 0), 180, .inl g_487))]) [0, 1, 2] rfl
      have hD9 := hD.sub (ws' := [(m0, .inr (10, (.ref mtp :: .int sta :: .int sru :: .ref msg :: .ref mln :: .ref mcl :: .ref mcs :: .ref mrd :: .int snx :: .int swr :: .int snu :: .int ste :: .int sma :: .int sde :: .int sli :: .ref mop :: .int sod :: .ref mst :: .int sto :: .ref mwd :: .ref msd :: .int sx_ :: .ref mws :: .int x_489 :: .ref mfr :: .ref mqu :: .ref miw :: .int sfi :: .int swa :: .long sdx :: .ref mim :: .ref mix :: .ref mmd :: []))), (msd, .inl ((cs 0), 133, .inl gsd)), (mws, .inl ((cs 0), 180, .inl g_487))]) [0, 1, 2] (by decide) rfl
      exact W.vret hx hb hr (fun t9 ht9 hW9 => ⟨⟨(), rfl, trivial, ⟨x_489, g_487, (Rg.wk (lo2 := 0) (hi2 := 20) r_491 (by decide)), (rb_488 x_489 (cN_add (k := 1) e_490 r_144 (Rg.c (c := 1) (k := 1) rfl) (by decide))), by rw [ht9]; exact hP9, hD9⟩⟩, hS.F ht9⟩) hS.2.2 dX12_keepsAct_118
    · have r_458 : Rg 0 7 v_157 := Rg.lt_l (nle_lt c_456) r_454 (Rg.c (c := 8) (k := 8) rfl) (by decide)
      refine lv_aload_n hx hb dX12_keepsAct_58 rfl (lv_at hl 1 rfl) ?_
      refine va_get (D := D) (ci := 10) (v := .ref mws) (C := "WrongHoleModel") (T := TX12) (N := 33) hx hb hts (iq_RX12 _) hown hK hP 0 rfl rfl 22 (by decide) (hT _ qq_5_174) (fun _ h9 => h9) rfl dX12_keepsAct_59 ?_
      refine lv_bipush (v := 9) hx hb dX12_keepsAct_62 (by decide) ?_
      refine lv_aload_n hx hb dX12_keepsAct_64 rfl (lv_at hl 1 rfl) ?_
      refine va_get (D := D) (ci := 10) (v := .int v_141) (C := "WrongHoleModel") (T := TX12) (N := 33) hx hb hts (iq_RX12 _) hown hK hP 0 rfl rfl 23 (by decide) (hT _ qq_5_175) (fun _ h9 => h9) rfl dX12_keepsAct_65 ?_
      refine lv_imul hx hb dX12_keepsAct_68 ?_
      refine lv_topi (fun x_492 e_493 => ?_)
      have r_494 : Rg 0 171 x_492 := Rg.mul (ha := 9) (hb := 19) e_493 (Rg.wk (lo2 := 0) (hi2 := 9) (Rg.c (c := 9) (k := 9) rfl) (by decide)) r_144 (by decide)
      refine lv_iload_n hx hb dX12_keepsAct_69 rfl (lv_at hl 0 rfl) ?_
      refine lv_iadd hx hb dX12_keepsAct_70 ?_
      refine lv_topi (fun x_495 e_496 => ?_)
      have r_497 : Rg 0 178 x_495 := Rg.add e_496 r_494 r_458 (by decide)
      refine lv_aload_n hx hb dX12_keepsAct_71 rfl (lv_at hl 1 rfl) ?_
      refine va_get (D := D) (ci := 10) (v := .ref msd) (C := "WrongHoleModel") (T := TX12) (N := 33) hx hb hts (iq_RX12 _) hown hK hP 0 rfl rfl 20 (by decide) (hT _ qq_5_172) (fun _ h9 => h9) rfl dX12_keepsAct_72 ?_
      refine lv_bipush (v := 10) hx hb dX12_keepsAct_75 (by decide) ?_
      refine lv_iload_n hx hb dX12_keepsAct_77 rfl (lv_at hl 0 rfl) ?_
      refine lv_iadd hx hb dX12_keepsAct_78 ?_
      refine lv_topi (fun x_498 e_499 => ?_)
      have r_500 : Rg 10 17 x_498 := Rg.add e_499 (Rg.c (c := 10) (k := 10) rfl) r_458 (by decide)
      have hi_501 : vp_in x_498 133 := Rg.in r_500 (by decide)
      refine va_iald hx hb hK hP 1 0 rfl rfl hi_501 dX12_keepsAct_79 ?_
      refine lv_topi (fun x_502 e_503 => ?_)
      have r_504 : Rg (-1) 7 x_502 := Rg.of e_503 (hsi.li r_500 (by decide))
      have hi_505 : vp_in x_495 180 := Rg.in r_497 (by decide)
      refine va_iast hx hb hK hP hD hS 2 0 rfl rfl hi_505 dX12_keepsAct_80 (fun H locs hP hD hS => ?_)
      obtain ⟨g_506, rb_507, hP, hD⟩ : ∃ g_506 : Nat → Int32, ((∀ j, j < 9 * cN v_141 → g_506 j = g_142 j) ∧ ∀ c, c < cN v_157 + 1 → g_506 (9 * cN v_141 + c) = gsd (10 + c)) ∧ va_P D vwCl [(m0, .inr (10, (.ref mtp :: .int sta :: .int sru :: .ref msg :: .ref mln :: .ref mcl :: .ref mcs :: .ref mrd :: .int snx :: .int swr :: .int snu :: .int ste :: .int sma :: .int sde :: .int sli :: .ref mop :: .int sod :: .ref mst :: .int sto :: .ref mwd :: .ref msd :: .int sx_ :: .ref mws :: .int v_141 :: .ref mfr :: .ref mqu :: .ref miw :: .int sfi :: .int swa :: .long sdx :: .ref mim :: .ref mix :: .ref mmd :: []))), (msd, .inl ((cs 0), 133, .inl gsd)), (mws, .inl ((cs 0), 180, .inl g_506))] H ∧ va_D A [(m0, .inr (10, (.ref mtp :: .int sta :: .int sru :: .ref msg :: .ref mln :: .ref mcl :: .ref mcs :: .ref mrd :: .int snx :: .int swr :: .int snu :: .int ste :: .int sma :: .int sde :: .int sli :: .ref mop :: .int sod :: .ref mst :: .int sto :: .ref mwd :: .ref msd :: .int sx_ :: .ref mws :: .int v_141 :: .ref mfr :: .ref mqu :: .ref miw :: .int sfi :: .int swa :: .long sdx :: .ref mim :: .ref mix :: .ref mmd :: []))), (msd, .inl ((cs 0), 133, .inl gsd)), (mws, .inl ((cs 0), 180, .inl g_506))] := ⟨_, kb_st iv_455 (ix9 e_493 e_496 r_144 r_458 (by decide)) (show x_502 = gsd (10 + cN v_157) from by rw [e_503, show Int32.toNatClampNeg x_498 = _ from (ix_add (k := 10) e_499 r_458 (by decide) ⟨by decide, rfl⟩)]), hP, hD⟩
      obtain ⟨x_508, e_509⟩ : ∃ z : Int32, z = v_157 + Int32.ofInt 1 := ⟨_, rfl⟩
      have r_510 : Rg 1 8 x_508 := Rg.add e_509 r_458 (Rg.c (c := Int32.ofInt 1) (k := 1) rfl) (by decide)
      refine lv_iinc (v := x_508) (lv' := [(1, .int x_508), (0, .ref m0)]) hx hb dX12_keepsAct_81 hl (k := 0) rfl (e_509.symm) (by decide) rfl (fun ls hl => ?_)
      refine lv_goto (tgt := 52) hx hb dX12_keepsAct_84 (by decide) ?_
      exact ih_453 (x_508, g_506) _ _ _ ⟨(Rg.wk (lo2 := 0) (hi2 := 8) r_510 (by decide)), (by rw [(cN_add (k := 1) e_509 r_458 (Rg.c (c := Int32.ofInt 1) (k := 1) rfl) (by decide))]; exact rb_507), hP, hD, hS, lv_sub hl [0, 1] rfl⟩ (ms_up e_509 r_458 (Rg.c (c := Int32.ofInt 1) (k := 1) rfl) (by decide))
  · refine lv_icmp_ne (tgt := 50) hx hb dX12_keepsAct_6 (by decide) (fun c_1 => ?_) (fun c_1 => ?_)
    · have r_2 : Rg 0 19 sun := Rg.ne c_1 r_sun (Rg.c (c := 20) (k := 20) rfl) (by decide)
      exact hj_143 (sun, gws) _ _ _ ⟨r_2, hws, hP, hD, hS, lv_sub hl [0] rfl⟩
    · have r_3 : Rg 20 20 sun := Rg.eq_l c_1 r_sun (Rg.c (c := 20) (k := 20) rfl) (by decide)
      refine lv_bipush (v := 9) hx hb dX12_keepsAct_9 (by decide) ?_
      refine lv_istore_n (lv' := [(1, .int 9), (0, .ref m0)]) hx hb dX12_keepsAct_11 rfl hl (by decide) rfl (fun ls hl => ?_)
      refine w_wh (σ := (Int32) × (Nat → Int32)) (fun x9 H locs ls => match x9 with | (v_516, g_517) => Rg 9 180 v_516 ∧ ((∀ j, j + 9 < cN v_516 → g_517 j = gws (j + 9)) ∧ ∀ j, cN v_516 ≤ j + 9 → g_517 j = gws j) ∧ va_P D vwCl [(m0, .inr (10, (.ref mtp :: .int sta :: .int sru :: .ref msg :: .ref mln :: .ref mcl :: .ref mcs :: .ref mrd :: .int snx :: .int swr :: .int snu :: .int ste :: .int sma :: .int sde :: .int sli :: .ref mop :: .int sod :: .ref mst :: .int sto :: .ref mwd :: .ref msd :: .int sx_ :: .ref mws :: .int sun :: .ref mfr :: .ref mqu :: .ref miw :: .int sfi :: .int swa :: .long sdx :: .ref mim :: .ref mix :: .ref mmd :: []))), (msd, .inl ((cs 0), 133, .inl gsd)), (mws, .inl ((cs 0), 180, .inl g_517))] H ∧ va_D A [(m0, .inr (10, (.ref mtp :: .int sta :: .int sru :: .ref msg :: .ref mln :: .ref mcl :: .ref mcs :: .ref mrd :: .int snx :: .int swr :: .int snu :: .int ste :: .int sma :: .int sde :: .int sli :: .ref mop :: .int sod :: .ref mst :: .int sto :: .ref mwd :: .ref msd :: .int sx_ :: .ref mws :: .int sun :: .ref mfr :: .ref mqu :: .ref miw :: .int sfi :: .int swa :: .long sdx :: .ref mim :: .ref mix :: .ref mmd :: []))), (msd, .inl ((cs 0), 133, .inl gsd)), (mws, .inl ((cs 0), 180, .inl g_517))] ∧ va_S A s.heap H locs ∧ lv_has ls 2 [(1, .int v_516), (0, .ref m0)]) (fun x9 => match x9 with | (v_516, g_517) => (180 - Int32.toInt v_516).toNat) 12 ?_ (9, gws) H locs ls ⟨(Rg.wk (lo2 := 9) (hi2 := 180) (Rg.c (c := 9) (k := 9) rfl) (by decide)), ka_0, hP, hD, hS, lv_sub hl [0, 1] rfl⟩
      rintro ⟨v_516, g_517⟩ H locs ls ⟨r_623, iv_624, hP, hD, hS, hl⟩ ih_622
      refine lv_iload_n hx hb dX12_keepsAct_12 rfl (lv_at hl 0 rfl) ?_
      refine lv_sipush (v := 180) hx hb dX12_keepsAct_13 (by decide) ?_
      refine lv_icmp_ge (tgt := 40) hx hb dX12_keepsAct_16 (by decide) (fun c_625 => ?_) (fun c_625 => ?_)
      · have r_626 : Rg 180 180 v_516 := Rg.le_r c_625 (Rg.c (c := 180) (k := 180) rfl) r_623 (by decide)
        refine lv_aload_n hx hb dX12_keepsAct_40 rfl (lv_at hl 1 rfl) ?_
        refine lv_dup hx hb dX12_keepsAct_41 rfl ?_
        refine va_get (D := D) (ci := 10) (v := .int sun) (C := "WrongHoleModel") (T := TX12) (N := 33) hx hb hts (iq_RX12 _) hown hK hP 0 rfl rfl 23 (by decide) (hT _ qq_5_175) (fun _ h9 => h9) rfl dX12_keepsAct_42 ?_
        refine lv_iconst (v := 1) hx hb dX12_keepsAct_45 (by decide) ?_
        refine lv_isub hx hb dX12_keepsAct_46 ?_
        refine lv_topi (fun x_638 e_639 => ?_)
        have r_640 : Rg 19 19 x_638 := Rg.sub e_639 r_3 (Rg.c (c := 1) (k := 1) rfl) (by decide)
        refine va_put (D := D) (ci := 10) (v := .int x_638) (ty := .int) (C := "WrongHoleModel") (T := TX12) (N := 33) hx hb hts (iq_RX12 _) tyX12 tyX12_ok nmX12 hown hK hP hD hS 0 rfl rfl 23 (by decide) (hT _ qq_5_175) (fun _ h9 => h9) rfl (by decide +kernel) rfl rfl (Nat.le_of_ble_eq_true rfl) dX12_keepsAct_47 (fun H locs hP hD hS => ?_)
        have hP : va_P D vwCl [(m0, .inr (10, (.ref mtp :: .int sta :: .int sru :: .ref msg :: .ref mln :: .ref mcl :: .ref mcs :: .ref mrd :: .int snx :: .int swr :: .int snu :: .int ste :: .int sma :: .int sde :: .int sli :: .ref mop :: .int sod :: .ref mst :: .int sto :: .ref mwd :: .ref msd :: .int sx_ :: .ref mws :: .int x_638 :: .ref mfr :: .ref mqu :: .ref miw :: .int sfi :: .int swa :: .long sdx :: .ref mim :: .ref mix :: .ref mmd :: []))), (msd, .inl ((cs 0), 133, .inl gsd)), (mws, .inl ((cs 0), 180, .inl g_517))] H := hP
        have hD : va_D A [(m0, .inr (10, (.ref mtp :: .int sta :: .int sru :: .ref msg :: .ref mln :: .ref mcl :: .ref mcs :: .ref mrd :: .int snx :: .int swr :: .int snu :: .int ste :: .int sma :: .int sde :: .int sli :: .ref mop :: .int sod :: .ref mst :: .int sto :: .ref mwd :: .ref msd :: .int sx_ :: .ref mws :: .int x_638 :: .ref mfr :: .ref mqu :: .ref miw :: .int sfi :: .int swa :: .long sdx :: .ref mim :: .ref mix :: .ref mmd :: []))), (msd, .inl ((cs 0), 133, .inl gsd)), (mws, .inl ((cs 0), 180, .inl g_517))] := hD
        exact hj_143 (x_638, g_517) _ _ _ ⟨(Rg.wk (lo2 := 0) (hi2 := 19) r_640 (by decide)), (ka_end hws iv_624 c_625 r_626 (by decide) c_1 e_639), hP, hD, hS, lv_sub hl [1] rfl⟩
      · have r_627 : Rg 9 179 v_516 := Rg.lt_l (nle_lt c_625) r_623 (Rg.c (c := 180) (k := 180) rfl) (by decide)
        refine lv_aload_n hx hb dX12_keepsAct_19 rfl (lv_at hl 1 rfl) ?_
        refine va_get (D := D) (ci := 10) (v := .ref mws) (C := "WrongHoleModel") (T := TX12) (N := 33) hx hb hts (iq_RX12 _) hown hK hP 0 rfl rfl 22 (by decide) (hT _ qq_5_174) (fun _ h9 => h9) rfl dX12_keepsAct_20 ?_
        refine lv_iload_n hx hb dX12_keepsAct_23 rfl (lv_at hl 0 rfl) ?_
        refine lv_bipush (v := 9) hx hb dX12_keepsAct_24 (by decide) ?_
        refine lv_isub hx hb dX12_keepsAct_26 ?_
        refine lv_topi (fun x_641 e_642 => ?_)
        have r_643 : Rg 0 170 x_641 := Rg.sub e_642 r_627 (Rg.c (c := 9) (k := 9) rfl) (by decide)
        refine lv_aload_n hx hb dX12_keepsAct_27 rfl (lv_at hl 1 rfl) ?_
        refine va_get (D := D) (ci := 10) (v := .ref mws) (C := "WrongHoleModel") (T := TX12) (N := 33) hx hb hts (iq_RX12 _) hown hK hP 0 rfl rfl 22 (by decide) (hT _ qq_5_174) (fun _ h9 => h9) rfl dX12_keepsAct_28 ?_
        refine lv_iload_n hx hb dX12_keepsAct_31 rfl (lv_at hl 0 rfl) ?_
        have hi_644 : vp_in v_516 180 := Rg.in r_627 (by decide)
        refine va_iald hx hb hK hP 2 0 rfl rfl hi_644 dX12_keepsAct_32 ?_
        refine lv_topi (fun x_645 e_646 => ?_)
        have hi_647 : vp_in x_641 180 := Rg.in r_643 (by decide)
        refine va_iast hx hb hK hP hD hS 2 0 rfl rfl hi_647 dX12_keepsAct_33 (fun H locs hP hD hS => ?_)
        obtain ⟨g_648, rb_649, hP, hD⟩ : ∃ g_648 : Nat → Int32, ((∀ j, j + 9 < cN v_516 + 1 → g_648 j = gws (j + 9)) ∧ ∀ j, cN v_516 + 1 ≤ j + 9 → g_648 j = gws j) ∧ va_P D vwCl [(m0, .inr (10, (.ref mtp :: .int sta :: .int sru :: .ref msg :: .ref mln :: .ref mcl :: .ref mcs :: .ref mrd :: .int snx :: .int swr :: .int snu :: .int ste :: .int sma :: .int sde :: .int sli :: .ref mop :: .int sod :: .ref mst :: .int sto :: .ref mwd :: .ref msd :: .int sx_ :: .ref mws :: .int sun :: .ref mfr :: .ref mqu :: .ref miw :: .int sfi :: .int swa :: .long sdx :: .ref mim :: .ref mix :: .ref mmd :: []))), (msd, .inl ((cs 0), 133, .inl gsd)), (mws, .inl ((cs 0), 180, .inl g_648))] H ∧ va_D A [(m0, .inr (10, (.ref mtp :: .int sta :: .int sru :: .ref msg :: .ref mln :: .ref mcl :: .ref mcs :: .ref mrd :: .int snx :: .int swr :: .int snu :: .int ste :: .int sma :: .int sde :: .int sli :: .ref mop :: .int sod :: .ref mst :: .int sto :: .ref mwd :: .ref msd :: .int sx_ :: .ref mws :: .int sun :: .ref mfr :: .ref mqu :: .ref miw :: .int sfi :: .int swa :: .long sdx :: .ref mim :: .ref mix :: .ref mmd :: []))), (msd, .inl ((cs 0), 133, .inl gsd)), (mws, .inl ((cs 0), 180, .inl g_648))] := ⟨_, ka_st iv_624 r_627 (by decide) e_642 e_646, hP, hD⟩
        obtain ⟨x_650, e_651⟩ : ∃ z : Int32, z = v_516 + Int32.ofInt 1 := ⟨_, rfl⟩
        have r_652 : Rg 10 180 x_650 := Rg.add e_651 r_627 (Rg.c (c := Int32.ofInt 1) (k := 1) rfl) (by decide)
        refine lv_iinc (v := x_650) (lv' := [(1, .int x_650), (0, .ref m0)]) hx hb dX12_keepsAct_34 hl (k := 0) rfl (e_651.symm) (by decide) rfl (fun ls hl => ?_)
        refine lv_goto (tgt := 12) hx hb dX12_keepsAct_37 (by decide) ?_
        exact ih_622 (x_650, g_648) _ _ _ ⟨(Rg.wk (lo2 := 9) (hi2 := 180) r_652 (by decide)), (ka_nx rb_649 (cN_add (k := 1) e_651 r_627 (Rg.c (c := Int32.ofInt 1) (k := 1) rfl) (by decide))), hP, hD, hS, lv_sub hl [0, 1] rfl⟩ (ms_up e_651 r_627 (Rg.c (c := Int32.ofInt 1) (k := 1) rfl) (by decide))
theorem dX12_takeBack_0 : decode cX12_takeBack 0 = .ok (.aload_n 0, 1) := by decide +kernel
theorem dX12_takeBack_1 : decode cX12_takeBack 1 = .ok (.getfield 301, 3) := by decide +kernel
theorem dX12_takeBack_4 : decode cX12_takeBack 4 = .ok (.ifCond .ne 5, 3) := by decide +kernel
theorem dX12_takeBack_9 : decode cX12_takeBack 9 = .ok (.aload_n 0, 1) := by decide +kernel
theorem dX12_takeBack_10 : decode cX12_takeBack 10 = .ok (.dup, 1) := by decide +kernel
theorem dX12_takeBack_11 : decode cX12_takeBack 11 = .ok (.getfield 301, 3) := by decide +kernel
theorem dX12_takeBack_14 : decode cX12_takeBack 14 = .ok (.iconst 1, 1) := by decide +kernel
theorem dX12_takeBack_15 : decode cX12_takeBack 15 = .ok (.isub, 1) := by decide +kernel
theorem dX12_takeBack_16 : decode cX12_takeBack 16 = .ok (.putfield 301, 3) := by decide +kernel
theorem dX12_takeBack_19 : decode cX12_takeBack 19 = .ok (.iconst 0, 1) := by decide +kernel
theorem dX12_takeBack_20 : decode cX12_takeBack 20 = .ok (.istore_n 1, 1) := by decide +kernel
theorem dX12_takeBack_21 : decode cX12_takeBack 21 = .ok (.iload_n 1, 1) := by decide +kernel
theorem dX12_takeBack_22 : decode cX12_takeBack 22 = .ok (.bipush 8, 2) := by decide +kernel
theorem dX12_takeBack_24 : decode cX12_takeBack 24 = .ok (.if_icmp .ge 32, 3) := by decide +kernel
theorem dX12_takeBack_56 : decode cX12_takeBack 56 = .ok (.aload_n 0, 1) := by decide +kernel
theorem dX12_takeBack_57 : decode cX12_takeBack 57 = .ok (.getfield 39, 3) := by decide +kernel
theorem dX12_takeBack_60 : decode cX12_takeBack 60 = .ok (.iconst 3, 1) := by decide +kernel
theorem dX12_takeBack_61 : decode cX12_takeBack 61 = .ok (.aload_n 0, 1) := by decide +kernel
theorem dX12_takeBack_62 : decode cX12_takeBack 62 = .ok (.getfield 42, 3) := by decide +kernel
theorem dX12_takeBack_65 : decode cX12_takeBack 65 = .ok (.bipush 9, 2) := by decide +kernel
theorem dX12_takeBack_67 : decode cX12_takeBack 67 = .ok (.aload_n 0, 1) := by decide +kernel
theorem dX12_takeBack_68 : decode cX12_takeBack 68 = .ok (.getfield 301, 3) := by decide +kernel
theorem dX12_takeBack_71 : decode cX12_takeBack 71 = .ok (.imul, 1) := by decide +kernel
theorem dX12_takeBack_72 : decode cX12_takeBack 72 = .ok (.bipush 8, 2) := by decide +kernel
theorem dX12_takeBack_74 : decode cX12_takeBack 74 = .ok (.iadd, 1) := by decide +kernel
theorem dX12_takeBack_75 : decode cX12_takeBack 75 = .ok (.iaload, 1) := by decide +kernel
theorem dX12_takeBack_76 : decode cX12_takeBack 76 = .ok (.iastore, 1) := by decide +kernel
theorem dX12_takeBack_77 : decode cX12_takeBack 77 = .ok (.aload_n 0, 1) := by decide +kernel
theorem dX12_takeBack_78 : decode cX12_takeBack 78 = .ok (.getfield 301, 3) := by decide +kernel
theorem dX12_takeBack_81 : decode cX12_takeBack 81 = .ok (.ireturn, 1) := by decide +kernel
theorem dX12_takeBack_27 : decode cX12_takeBack 27 = .ok (.aload_n 0, 1) := by decide +kernel
theorem dX12_takeBack_28 : decode cX12_takeBack 28 = .ok (.getfield 39, 3) := by decide +kernel
theorem dX12_takeBack_31 : decode cX12_takeBack 31 = .ok (.bipush 10, 2) := by decide +kernel
theorem dX12_takeBack_33 : decode cX12_takeBack 33 = .ok (.iload_n 1, 1) := by decide +kernel
theorem dX12_takeBack_34 : decode cX12_takeBack 34 = .ok (.iadd, 1) := by decide +kernel
theorem dX12_takeBack_35 : decode cX12_takeBack 35 = .ok (.aload_n 0, 1) := by decide +kernel
theorem dX12_takeBack_36 : decode cX12_takeBack 36 = .ok (.getfield 42, 3) := by decide +kernel
theorem dX12_takeBack_39 : decode cX12_takeBack 39 = .ok (.bipush 9, 2) := by decide +kernel
theorem dX12_takeBack_41 : decode cX12_takeBack 41 = .ok (.aload_n 0, 1) := by decide +kernel
theorem dX12_takeBack_42 : decode cX12_takeBack 42 = .ok (.getfield 301, 3) := by decide +kernel
theorem dX12_takeBack_45 : decode cX12_takeBack 45 = .ok (.imul, 1) := by decide +kernel
theorem dX12_takeBack_46 : decode cX12_takeBack 46 = .ok (.iload_n 1, 1) := by decide +kernel
theorem dX12_takeBack_47 : decode cX12_takeBack 47 = .ok (.iadd, 1) := by decide +kernel
theorem dX12_takeBack_48 : decode cX12_takeBack 48 = .ok (.iaload, 1) := by decide +kernel
theorem dX12_takeBack_49 : decode cX12_takeBack 49 = .ok (.iastore, 1) := by decide +kernel
theorem dX12_takeBack_50 : decode cX12_takeBack 50 = .ok (.iinc 1 1, 3) := by decide +kernel
theorem dX12_takeBack_53 : decode cX12_takeBack 53 = .ok (.goto (-32), 3) := by decide +kernel
theorem dX12_takeBack_7 : decode cX12_takeBack 7 = .ok (.iconst (-1), 1) := by decide +kernel
theorem dX12_takeBack_8 : decode cX12_takeBack 8 = .ok (.ireturn, 1) := by decide +kernel
set_option maxHeartbeats 4000000 in
set_option maxRecDepth 100000 in
theorem c_M_takeBack (l : Launch) (D : va_G) (cs : Nat → ClassId) (X : XX) (sz : Nat) (m0 : Nat) (mtp : Nat) (sta : Int32) (sru : Int32) (msg : Nat) (mln : Nat) (mcl : Nat) (mcs : Nat) (mrd : Nat) (snx : Int32) (swr : Int32) (snu : Int32) (ste : Int32) (sma : Int32) (sde : Int32) (sli : Int32) (mop : Nat) (sod : Int32) (mst : Nat) (sto : Int32) (mwd : Nat) (msd : Nat) (sx_ : Int32) (mws : Nat) (sun : Int32) (mfr : Nat) (mqu : Nat) (miw : Nat) (sfi : Int32) (swa : Int32) (sdx : Int64) (mim : Nat) (mix : Nat) (mmd : Nat) (gsd : Nat → Int32) (gws : Nat → Int32) (hsi : SI gsd) (r_sun : Rg 0 20 sun) (hws : WSI gsd gws (cN sun)) : Met l yX12_takeBack (Cond.code yX12_takeBack cX12_takeBack 2 (some .int) :: TB) (RM 0 0 0) (va_Pc [.ref m0] (PRE D cs X [(m0, .inr (10, (.ref mtp :: .int sta :: .int sru :: .ref msg :: .ref mln :: .ref mcl :: .ref mcs :: .ref mrd :: .int snx :: .int swr :: .int snu :: .int ste :: .int sma :: .int sde :: .int sli :: .ref mop :: .int sod :: .ref mst :: .int sto :: .ref mwd :: .ref msd :: .int sx_ :: .ref mws :: .int sun :: .ref mfr :: .ref mqu :: .ref miw :: .int sfi :: .int swa :: .long sdx :: .ref mim :: .ref mix :: .ref mmd :: []))), (msd, .inl ((cs 0), 133, .inl gsd)), (mws, .inl ((cs 0), 180, .inl gws))] [] sz)) (va_Qi (S := Unit) (fun r _ => True) (fun _ t => ∃ (sun2 : Int32), ∃ (gsd2 : Nat → Int32), Rg 0 20 sun2 ∧ (SI gsd2) ∧ (gsd2 0 = gsd 0) ∧ (WSI gsd2 gws (cN sun2)) ∧ va_P D vwCl [(m0, .inr (10, (.ref mtp :: .int sta :: .int sru :: .ref msg :: .ref mln :: .ref mcl :: .ref mcs :: .ref mrd :: .int snx :: .int swr :: .int snu :: .int ste :: .int sma :: .int sde :: .int sli :: .ref mop :: .int sod :: .ref mst :: .int sto :: .ref mwd :: .ref msd :: .int sx_ :: .ref mws :: .int sun2 :: .ref mfr :: .ref mqu :: .ref miw :: .int sfi :: .int swa :: .long sdx :: .ref mim :: .ref mix :: .ref mmd :: []))), (msd, .inl ((cs 0), 133, .inl gsd2)), (mws, .inl ((cs 0), 180, .inl gws))] t.heap ∧ va_D (va_A [(m0, .inr (10, (.ref mtp :: .int sta :: .int sru :: .ref msg :: .ref mln :: .ref mcl :: .ref mcs :: .ref mrd :: .int snx :: .int swr :: .int snu :: .int ste :: .int sma :: .int sde :: .int sli :: .ref mop :: .int sod :: .ref mst :: .int sto :: .ref mwd :: .ref msd :: .int sx_ :: .ref mws :: .int sun :: .ref mfr :: .ref mqu :: .ref miw :: .int sfi :: .int swa :: .long sdx :: .ref mim :: .ref mix :: .ref mmd :: []))), (msd, .inl ((cs 0), 133, .inl gsd)), (mws, .inl ((cs 0), 180, .inl gws))] sz) [(m0, .inr (10, (.ref mtp :: .int sta :: .int sru :: .ref msg :: .ref mln :: .ref mcl :: .ref mcs :: .ref mrd :: .int snx :: .int swr :: .int snu :: .int ste :: .int sma :: .int sde :: .int sli :: .ref mop :: .int sod :: .ref mst :: .int sto :: .ref mwd :: .ref msd :: .int sx_ :: .ref mws :: .int sun2 :: .ref mfr :: .ref mqu :: .ref miw :: .int sfi :: .int swa :: .long sdx :: .ref mim :: .ref mix :: .ref mmd :: []))), (msd, .inl ((cs 0), 133, .inl gsd2)), (mws, .inl ((cs 0), 180, .inl gws))]) (va_A [(m0, .inr (10, (.ref mtp :: .int sta :: .int sru :: .ref msg :: .ref mln :: .ref mcl :: .ref mcs :: .ref mrd :: .int snx :: .int swr :: .int snu :: .int ste :: .int sma :: .int sde :: .int sli :: .ref mop :: .int sod :: .ref mst :: .int sto :: .ref mwd :: .ref msd :: .int sx_ :: .ref mws :: .int sun :: .ref mfr :: .ref mqu :: .ref miw :: .int sfi :: .int swa :: .long sdx :: .ref mim :: .ref mix :: .ref mmd :: []))), (msd, .inl ((cs 0), 133, .inl gsd)), (mws, .inl ((cs 0), 180, .inl gws))] sz)) 0 0 (va_A [(m0, .inr (10, (.ref mtp :: .int sta :: .int sru :: .ref msg :: .ref mln :: .ref mcl :: .ref mcs :: .ref mrd :: .int snx :: .int swr :: .int snu :: .int ste :: .int sma :: .int sde :: .int sli :: .ref mop :: .int sod :: .ref mst :: .int sto :: .ref mwd :: .ref msd :: .int sx_ :: .ref mws :: .int sun :: .ref mfr :: .ref mqu :: .ref miw :: .int sfi :: .int swa :: .long sdx :: .ref mim :: .ref mix :: .ref mmd :: []))), (msd, .inl ((cs 0), 133, .inl gsd)), (mws, .inl ((cs 0), 180, .inl gws))] sz) := by
  refine MET (y := yX12_takeBack) (cc := cX12_takeBack) (maxL := 2) (ret := (some .int)) (d := 0) (mc := 0) (ms := 0) (D := D) (cs := cs) (X := X) (ws := [(m0, .inr (10, (.ref mtp :: .int sta :: .int sru :: .ref msg :: .ref mln :: .ref mcl :: .ref mcs :: .ref mrd :: .int snx :: .int swr :: .int snu :: .int ste :: .int sma :: .int sde :: .int sli :: .ref mop :: .int sod :: .ref mst :: .int sto :: .ref mwd :: .ref msd :: .int sx_ :: .ref mws :: .int sun :: .ref mfr :: .ref mqu :: .ref miw :: .int sfi :: .int swa :: .long sdx :: .ref mim :: .ref mix :: .ref mmd :: []))), (msd, .inl ((cs 0), 133, .inl gsd)), (mws, .inl ((cs 0), 180, .inl gws))]) (wo := []) (sz := sz) (av := [.ref m0]) (Qc := fun A => va_Qi (S := Unit) (fun r _ => True) (fun _ t => ∃ (sun2 : Int32), ∃ (gsd2 : Nat → Int32), Rg 0 20 sun2 ∧ (SI gsd2) ∧ (gsd2 0 = gsd 0) ∧ (WSI gsd2 gws (cN sun2)) ∧ va_P D vwCl [(m0, .inr (10, (.ref mtp :: .int sta :: .int sru :: .ref msg :: .ref mln :: .ref mcl :: .ref mcs :: .ref mrd :: .int snx :: .int swr :: .int snu :: .int ste :: .int sma :: .int sde :: .int sli :: .ref mop :: .int sod :: .ref mst :: .int sto :: .ref mwd :: .ref msd :: .int sx_ :: .ref mws :: .int sun2 :: .ref mfr :: .ref mqu :: .ref miw :: .int sfi :: .int swa :: .long sdx :: .ref mim :: .ref mix :: .ref mmd :: []))), (msd, .inl ((cs 0), 133, .inl gsd2)), (mws, .inl ((cs 0), 180, .inl gws))] t.heap ∧ va_D A [(m0, .inr (10, (.ref mtp :: .int sta :: .int sru :: .ref msg :: .ref mln :: .ref mcl :: .ref mcs :: .ref mrd :: .int snx :: .int swr :: .int snu :: .int ste :: .int sma :: .int sde :: .int sli :: .ref mop :: .int sod :: .ref mst :: .int sto :: .ref mwd :: .ref msd :: .int sx_ :: .ref mws :: .int sun2 :: .ref mfr :: .ref mqu :: .ref miw :: .int sfi :: .int swa :: .long sdx :: .ref mim :: .ref mix :: .ref mmd :: []))), (msd, .inl ((cs 0), 133, .inl gsd2)), (mws, .inl ((cs 0), 180, .inl gws))]) A) (by decide) (Nat.le_of_ble_eq_true rfl) ?_
  intro p e s m below meth c ls A H hHe hx hb hr hml hown hts hlocks hnm hP hK hD hA hS hN hR hX hXs hl
  have hD : va_D A [(m0, .inr (10, (.ref mtp :: .int sta :: .int sru :: .ref msg :: .ref mln :: .ref mcl :: .ref mcs :: .ref mrd :: .int snx :: .int swr :: .int snu :: .int ste :: .int sma :: .int sde :: .int sli :: .ref mop :: .int sod :: .ref mst :: .int sto :: .ref mwd :: .ref msd :: .int sx_ :: .ref mws :: .int sun :: .ref mfr :: .ref mqu :: .ref miw :: .int sfi :: .int swa :: .long sdx :: .ref mim :: .ref mix :: .ref mmd :: []))), (msd, .inl ((cs 0), 133, .inl gsd)), (mws, .inl ((cs 0), 180, .inl gws))] := hD
  obtain ⟨locs, hlc⟩ : ∃ z : List Loc, z = [] := ⟨_, rfl⟩
  rw [← hlc] at hS ⊢
  have hown : s.vm.findClass "WrongHoleModel" = some m.cls := hown
  have hT : ∀ w ∈ TB, w.before ([.ref m0] : List Value).toArray s = true := fun w h => hts w (List.mem_cons_of_mem _ h)
  have hl : lv_has ls 2 [(0, .ref m0)] := hl
  have hP : va_P D vwCl [(m0, .inr (10, (.ref mtp :: .int sta :: .int sru :: .ref msg :: .ref mln :: .ref mcl :: .ref mcs :: .ref mrd :: .int snx :: .int swr :: .int snu :: .int ste :: .int sma :: .int sde :: .int sli :: .ref mop :: .int sod :: .ref mst :: .int sto :: .ref mwd :: .ref msd :: .int sx_ :: .ref mws :: .int sun :: .ref mfr :: .ref mqu :: .ref miw :: .int sfi :: .int swa :: .long sdx :: .ref mim :: .ref mix :: .ref mmd :: []))), (msd, .inl ((cs 0), 133, .inl gsd)), (mws, .inl ((cs 0), 180, .inl gws))] H := hP
  refine lv_aload_n hx hb dX12_takeBack_0 rfl (lv_at hl 0 rfl) ?_
  refine va_get (D := D) (ci := 10) (v := .int sun) (C := "WrongHoleModel") (T := TX12) (N := 33) hx hb hts (iq_RX12 _) hown hK hP 0 rfl rfl 23 (by decide) (hT _ qq_5_175) (fun _ h9 => h9) rfl dX12_takeBack_1 ?_
  refine lv_if_ne (tgt := 9) hx hb dX12_takeBack_4 (by decide) (fun c_1 => ?_) (fun c_1 => ?_)
  · have r_2 : Rg 1 20 sun := Rg.ne c_1 r_sun (Rg.c (c := 0) (k := 0) rfl) (by decide)
    refine lv_aload_n hx hb dX12_takeBack_9 rfl (lv_at hl 0 rfl) ?_
    refine lv_dup hx hb dX12_takeBack_10 rfl ?_
    refine va_get (D := D) (ci := 10) (v := .int sun) (C := "WrongHoleModel") (T := TX12) (N := 33) hx hb hts (iq_RX12 _) hown hK hP 0 rfl rfl 23 (by decide) (hT _ qq_5_175) (fun _ h9 => h9) rfl dX12_takeBack_11 ?_
    refine lv_iconst (v := 1) hx hb dX12_takeBack_14 (by decide) ?_
    refine lv_isub hx hb dX12_takeBack_15 ?_
    refine lv_topi (fun x_4 e_5 => ?_)
    have r_6 : Rg 0 19 x_4 := Rg.sub e_5 r_2 (Rg.c (c := 1) (k := 1) rfl) (by decide)
    refine va_put (D := D) (ci := 10) (v := .int x_4) (ty := .int) (C := "WrongHoleModel") (T := TX12) (N := 33) hx hb hts (iq_RX12 _) tyX12 tyX12_ok nmX12 hown hK hP hD hS 0 rfl rfl 23 (by decide) (hT _ qq_5_175) (fun _ h9 => h9) rfl (by decide +kernel) rfl rfl (Nat.le_of_ble_eq_true rfl) dX12_takeBack_16 (fun H locs hP hD hS => ?_)
    have hP : va_P D vwCl [(m0, .inr (10, (.ref mtp :: .int sta :: .int sru :: .ref msg :: .ref mln :: .ref mcl :: .ref mcs :: .ref mrd :: .int snx :: .int swr :: .int snu :: .int ste :: .int sma :: .int sde :: .int sli :: .ref mop :: .int sod :: .ref mst :: .int sto :: .ref mwd :: .ref msd :: .int sx_ :: .ref mws :: .int x_4 :: .ref mfr :: .ref mqu :: .ref miw :: .int sfi :: .int swa :: .long sdx :: .ref mim :: .ref mix :: .ref mmd :: []))), (msd, .inl ((cs 0), 133, .inl gsd)), (mws, .inl ((cs 0), 180, .inl gws))] H := hP
    have hD : va_D A [(m0, .inr (10, (.ref mtp :: .int sta :: .int sru :: .ref msg :: .ref mln :: .ref mcl :: .ref mcs :: .ref mrd :: .int snx :: .int swr :: .int snu :: .int ste :: .int sma :: .int sde :: .int sli :: .ref mop :: .int sod :: .ref mst :: .int sto :: .ref mwd :: .ref msd :: .int sx_ :: .ref mws :: .int x_4 :: .ref mfr :: .ref mqu :: .ref miw :: .int sfi :: .int swa :: .long sdx :: .ref mim :: .ref mix :: .ref mmd :: []))), (msd, .inl ((cs 0), 133, .inl gsd)), (mws, .inl ((cs 0), 180, .inl gws))] := hD
    refine lv_iconst (v := 0) hx hb dX12_takeBack_19 (by decide) ?_
    refine lv_istore_n (lv' := [(1, .int 0), (0, .ref m0)]) hx hb dX12_takeBack_20 rfl hl (by decide) rfl (fun ls hl => ?_)
    refine w_wh (σ := (Int32) × (Nat → Int32)) (fun x9 H locs ls => match x9 with | (v_18, g_19) => Rg 0 8 v_18 ∧ ((∀ j, (j < 10 ∨ 18 ≤ j) → g_19 j = gsd j) ∧ ∀ c, c < cN v_18 → g_19 (10 + c) = gws (9 * cN x_4 + c)) ∧ va_P D vwCl [(m0, .inr (10, (.ref mtp :: .int sta :: .int sru :: .ref msg :: .ref mln :: .ref mcl :: .ref mcs :: .ref mrd :: .int snx :: .int swr :: .int snu :: .int ste :: .int sma :: .int sde :: .int sli :: .ref mop :: .int sod :: .ref mst :: .int sto :: .ref mwd :: .ref msd :: .int sx_ :: .ref mws :: .int x_4 :: .ref mfr :: .ref mqu :: .ref miw :: .int sfi :: .int swa :: .long sdx :: .ref mim :: .ref mix :: .ref mmd :: []))), (msd, .inl ((cs 0), 133, .inl g_19)), (mws, .inl ((cs 0), 180, .inl gws))] H ∧ va_D A [(m0, .inr (10, (.ref mtp :: .int sta :: .int sru :: .ref msg :: .ref mln :: .ref mcl :: .ref mcs :: .ref mrd :: .int snx :: .int swr :: .int snu :: .int ste :: .int sma :: .int sde :: .int sli :: .ref mop :: .int sod :: .ref mst :: .int sto :: .ref mwd :: .ref msd :: .int sx_ :: .ref mws :: .int x_4 :: .ref mfr :: .ref mqu :: .ref miw :: .int sfi :: .int swa :: .long sdx :: .ref mim :: .ref mix :: .ref mmd :: []))), (msd, .inl ((cs 0), 133, .inl g_19)), (mws, .inl ((cs 0), 180, .inl gws))] ∧ va_S A s.heap H locs ∧ lv_has ls 2 [(1, .int v_18), (0, .ref m0)]) (fun x9 => match x9 with | (v_18, g_19) => (8 - Int32.toInt v_18).toNat) 21 ?_ (0, gsd) H locs ls ⟨(Rg.wk (lo2 := 0) (hi2 := 8) (Rg.c (c := 0) (k := 0) rfl) (by decide)), ⟨fun _ _ => rfl, fun c hc => absurd hc (Nat.not_lt_zero c)⟩, hP, hD, hS, lv_sub hl [0, 1] rfl⟩
    rintro ⟨v_18, g_19⟩ H locs ls ⟨r_286, iv_287, hP, hD, hS, hl⟩ ih_285
    refine lv_iload_n hx hb dX12_takeBack_21 rfl (lv_at hl 0 rfl) ?_
    refine lv_bipush (v := 8) hx hb dX12_takeBack_22 (by decide) ?_
    refine lv_icmp_ge (tgt := 56) hx hb dX12_takeBack_24 (by decide) (fun c_288 => ?_) (fun c_288 => ?_)
    · have r_289 : Rg 8 8 v_18 := Rg.le_r c_288 (Rg.c (c := 8) (k := 8) rfl) r_286 (by decide)
      refine lv_aload_n hx hb dX12_takeBack_56 rfl (lv_at hl 1 rfl) ?_
      refine va_get (D := D) (ci := 10) (v := .ref msd) (C := "WrongHoleModel") (T := TX12) (N := 33) hx hb hts (iq_RX12 _) hown hK hP 0 rfl rfl 20 (by decide) (hT _ qq_5_172) (fun _ h9 => h9) rfl dX12_takeBack_57 ?_
      refine lv_iconst (v := 3) hx hb dX12_takeBack_60 (by decide) ?_
      refine lv_aload_n hx hb dX12_takeBack_61 rfl (lv_at hl 1 rfl) ?_
      refine va_get (D := D) (ci := 10) (v := .ref mws) (C := "WrongHoleModel") (T := TX12) (N := 33) hx hb hts (iq_RX12 _) hown hK hP 0 rfl rfl 22 (by decide) (hT _ qq_5_174) (fun _ h9 => h9) rfl dX12_takeBack_62 ?_
      refine lv_bipush (v := 9) hx hb dX12_takeBack_65 (by decide) ?_
      refine lv_aload_n hx hb dX12_takeBack_67 rfl (lv_at hl 1 rfl) ?_
      refine va_get (D := D) (ci := 10) (v := .int x_4) (C := "WrongHoleModel") (T := TX12) (N := 33) hx hb hts (iq_RX12 _) hown hK hP 0 rfl rfl 23 (by decide) (hT _ qq_5_175) (fun _ h9 => h9) rfl dX12_takeBack_68 ?_
      refine lv_imul hx hb dX12_takeBack_71 ?_
      refine lv_topi (fun x_307 e_308 => ?_)
      have r_309 : Rg 0 171 x_307 := Rg.mul (ha := 9) (hb := 19) e_308 (Rg.wk (lo2 := 0) (hi2 := 9) (Rg.c (c := 9) (k := 9) rfl) (by decide)) r_6 (by decide)
      refine lv_bipush (v := 8) hx hb dX12_takeBack_72 (by decide) ?_
      refine lv_iadd hx hb dX12_takeBack_74 ?_
      refine lv_topi (fun x_310 e_311 => ?_)
      have r_312 : Rg 8 179 x_310 := Rg.add e_311 r_309 (Rg.c (c := 8) (k := 8) rfl) (by decide)
      have hi_313 : vp_in x_310 180 := Rg.in r_312 (by decide)
      refine va_iald hx hb hK hP 2 0 rfl rfl hi_313 dX12_takeBack_75 ?_
      refine lv_topi (fun x_314 e_315 => ?_)
      have hi_316 : vp_in 3 133 := vi_c rfl
      refine va_iast hx hb hK hP hD hS 1 0 rfl rfl hi_316 dX12_takeBack_76 (fun H locs hP hD hS => ?_)
      obtain ⟨g_317, rb_318, hP, hD⟩ : ∃ g_317 : Nat → Int32, (SI g_317 ∧ g_317 0 = gsd 0) ∧ va_P D vwCl [(m0, .inr (10, (.ref mtp :: .int sta :: .int sru :: .ref msg :: .ref mln :: .ref mcl :: .ref mcs :: .ref mrd :: .int snx :: .int swr :: .int snu :: .int ste :: .int sma :: .int sde :: .int sli :: .ref mop :: .int sod :: .ref mst :: .int sto :: .ref mwd :: .ref msd :: .int sx_ :: .ref mws :: .int x_4 :: .ref mfr :: .ref mqu :: .ref miw :: .int sfi :: .int swa :: .long sdx :: .ref mim :: .ref mix :: .ref mmd :: []))), (msd, .inl ((cs 0), 133, .inl g_317)), (mws, .inl ((cs 0), 180, .inl gws))] H ∧ va_D A [(m0, .inr (10, (.ref mtp :: .int sta :: .int sru :: .ref msg :: .ref mln :: .ref mcl :: .ref mcs :: .ref mrd :: .int snx :: .int swr :: .int snu :: .int ste :: .int sma :: .int sde :: .int sli :: .ref mop :: .int sod :: .ref mst :: .int sto :: .ref mwd :: .ref msd :: .int sx_ :: .ref mws :: .int x_4 :: .ref mfr :: .ref mqu :: .ref miw :: .int sfi :: .int swa :: .long sdx :: .ref mim :: .ref mix :: .ref mmd :: []))), (msd, .inl ((cs 0), 133, .inl g_317)), (mws, .inl ((cs 0), 180, .inl gws))] := ⟨_, tb_end hsi (ws_lt hws e_5 r_2 (by decide)).1 iv_287 (le_cN c_288 (Rg.c (c := 8) (k := 8) rfl) r_289 (by decide)) (show x_314 = gws (9 * cN x_4 + cN 8) from by rw [e_315, show Int32.toNatClampNeg x_310 = _ from (ix9 e_308 e_311 r_6 (Rg.c (c := 8) (k := 8) rfl) (by decide))]), hP, hD⟩
      refine lv_aload_n hx hb dX12_takeBack_77 rfl (lv_at hl 1 rfl) ?_
      refine va_get (D := D) (ci := 10) (v := .int x_4) (C := "WrongHoleModel") (T := TX12) (N := 33) hx hb hts (iq_RX12 _) hown hK hP 0 rfl rfl 23 (by decide) (hT _ qq_5_175) (fun _ h9 => h9) rfl dX12_takeBack_78 ?_
      refine W.widen (k := 0) (n := 0) (Nat.le_of_ble_eq_true rfl) (Nat.le_of_ble_eq_true rfl) ?_
      have hP9 := hP.sub (ws' := [(m0, .inr (10, (.ref mtp :: .int sta :: .int sru :: .ref msg :: .ref mln :: .ref mcl :: .ref mcs :: .ref mrd :: .int snx :: .int swr :: .int snu :: .int ste :: .int sma :: .int sde :: .int sli :: .ref mop :: .int sod :: .ref mst :: .int sto :: .ref mwd :: .ref msd :: .int sx_ :: .ref mws :: .int x_4 :: .ref mfr :: .ref mqu :: .ref miw :: .int sfi :: .int swa :: .long sdx :: .ref mim :: .ref mix :: .ref mmd :: []))), (msd, .inl ((cs 0), 133, .inl g_317)), (mws, .inl ((cs 0), 180, .inl gws))]) [0, 1, 2] rfl
      have hD9 := hD.sub (ws' := [(m0, .inr (10, (.ref mtp :: .int sta :: .int sru :: .ref msg :: .ref mln :: .ref mcl :: .ref mcs :: .ref mrd :: .int snx :: .int swr :: .int snu :: .int ste :: .int sma :: .int sde :: .int sli :: .ref mop :: .int sod :: .ref mst :: .int sto :: .ref mwd :: .ref msd :: .int sx_ :: .ref mws :: .int x_4 :: .ref mfr :: .ref mqu :: .ref miw :: .int sfi :: .int swa :: .long sdx :: .ref mim :: .ref mix :: .ref mmd :: []))), (msd, .inl ((cs 0), 133, .inl g_317)), (mws, .inl ((cs 0), 180, .inl gws))]) [0, 1, 2] (by decide) rfl
      exact W.iret (v := x_4) hx hb hr (fun t9 ht9 hW9 => ⟨⟨_, (), rfl, trivial, ⟨x_4, g_317, (Rg.wk (lo2 := 0) (hi2 := 20) r_6 (by decide)), rb_318.1, rb_318.2, (ws_f (ws_lt hws e_5 r_2 (by decide)).2 rb_318.2), by rw [ht9]; exact hP9, hD9⟩⟩, hS.F ht9⟩) hS.2.2 dX12_takeBack_81
    · have r_290 : Rg 0 7 v_18 := Rg.lt_l (nle_lt c_288) r_286 (Rg.c (c := 8) (k := 8) rfl) (by decide)
      refine lv_aload_n hx hb dX12_takeBack_27 rfl (lv_at hl 1 rfl) ?_
      refine va_get (D := D) (ci := 10) (v := .ref msd) (C := "WrongHoleModel") (T := TX12) (N := 33) hx hb hts (iq_RX12 _) hown hK hP 0 rfl rfl 20 (by decide) (hT _ qq_5_172) (fun _ h9 => h9) rfl dX12_takeBack_28 ?_
      refine lv_bipush (v := 10) hx hb dX12_takeBack_31 (by decide) ?_
      refine lv_iload_n hx hb dX12_takeBack_33 rfl (lv_at hl 0 rfl) ?_
      refine lv_iadd hx hb dX12_takeBack_34 ?_
      refine lv_topi (fun x_319 e_320 => ?_)
      have r_321 : Rg 10 17 x_319 := Rg.add e_320 (Rg.c (c := 10) (k := 10) rfl) r_290 (by decide)
      refine lv_aload_n hx hb dX12_takeBack_35 rfl (lv_at hl 1 rfl) ?_
      refine va_get (D := D) (ci := 10) (v := .ref mws) (C := "WrongHoleModel") (T := TX12) (N := 33) hx hb hts (iq_RX12 _) hown hK hP 0 rfl rfl 22 (by decide) (hT _ qq_5_174) (fun _ h9 => h9) rfl dX12_takeBack_36 ?_
      refine lv_bipush (v := 9) hx hb dX12_takeBack_39 (by decide) ?_
      refine lv_aload_n hx hb dX12_takeBack_41 rfl (lv_at hl 1 rfl) ?_
      refine va_get (D := D) (ci := 10) (v := .int x_4) (C := "WrongHoleModel") (T := TX12) (N := 33) hx hb hts (iq_RX12 _) hown hK hP 0 rfl rfl 23 (by decide) (hT _ qq_5_175) (fun _ h9 => h9) rfl dX12_takeBack_42 ?_
      refine lv_imul hx hb dX12_takeBack_45 ?_
      refine lv_topi (fun x_322 e_323 => ?_)
      have r_324 : Rg 0 171 x_322 := Rg.mul (ha := 9) (hb := 19) e_323 (Rg.wk (lo2 := 0) (hi2 := 9) (Rg.c (c := 9) (k := 9) rfl) (by decide)) r_6 (by decide)
      refine lv_iload_n hx hb dX12_takeBack_46 rfl (lv_at hl 0 rfl) ?_
      refine lv_iadd hx hb dX12_takeBack_47 ?_
      refine lv_topi (fun x_325 e_326 => ?_)
      have r_327 : Rg 0 178 x_325 := Rg.add e_326 r_324 r_290 (by decide)
      have hi_328 : vp_in x_325 180 := Rg.in r_327 (by decide)
      refine va_iald hx hb hK hP 2 0 rfl rfl hi_328 dX12_takeBack_48 ?_
      refine lv_topi (fun x_329 e_330 => ?_)
      have hi_331 : vp_in x_319 133 := Rg.in r_321 (by decide)
      refine va_iast hx hb hK hP hD hS 1 0 rfl rfl hi_331 dX12_takeBack_49 (fun H locs hP hD hS => ?_)
      obtain ⟨g_332, rb_333, hP, hD⟩ : ∃ g_332 : Nat → Int32, ((∀ j, (j < 10 ∨ 18 ≤ j) → g_332 j = gsd j) ∧ ∀ c, c < cN v_18 + 1 → g_332 (10 + c) = gws (9 * cN x_4 + c)) ∧ va_P D vwCl [(m0, .inr (10, (.ref mtp :: .int sta :: .int sru :: .ref msg :: .ref mln :: .ref mcl :: .ref mcs :: .ref mrd :: .int snx :: .int swr :: .int snu :: .int ste :: .int sma :: .int sde :: .int sli :: .ref mop :: .int sod :: .ref mst :: .int sto :: .ref mwd :: .ref msd :: .int sx_ :: .ref mws :: .int x_4 :: .ref mfr :: .ref mqu :: .ref miw :: .int sfi :: .int swa :: .long sdx :: .ref mim :: .ref mix :: .ref mmd :: []))), (msd, .inl ((cs 0), 133, .inl g_332)), (mws, .inl ((cs 0), 180, .inl gws))] H ∧ va_D A [(m0, .inr (10, (.ref mtp :: .int sta :: .int sru :: .ref msg :: .ref mln :: .ref mcl :: .ref mcs :: .ref mrd :: .int snx :: .int swr :: .int snu :: .int ste :: .int sma :: .int sde :: .int sli :: .ref mop :: .int sod :: .ref mst :: .int sto :: .ref mwd :: .ref msd :: .int sx_ :: .ref mws :: .int x_4 :: .ref mfr :: .ref mqu :: .ref miw :: .int sfi :: .int swa :: .long sdx :: .ref mim :: .ref mix :: .ref mmd :: []))), (msd, .inl ((cs 0), 133, .inl g_332)), (mws, .inl ((cs 0), 180, .inl gws))] := ⟨_, tb_st iv_287 (cN_lt (n := 8) r_290 (by decide)) (ix_add (k := 10) e_320 r_290 (by decide) ⟨by decide, rfl⟩) (show x_329 = gws (9 * cN x_4 + cN v_18) from by rw [e_330, show Int32.toNatClampNeg x_325 = _ from (ix9 e_323 e_326 r_6 r_290 (by decide))]), hP, hD⟩
      obtain ⟨x_334, e_335⟩ : ∃ z : Int32, z = v_18 + Int32.ofInt 1 := ⟨_, rfl⟩
      have r_336 : Rg 1 8 x_334 := Rg.add e_335 r_290 (Rg.c (c := Int32.ofInt 1) (k := 1) rfl) (by decide)
      refine lv_iinc (v := x_334) (lv' := [(1, .int x_334), (0, .ref m0)]) hx hb dX12_takeBack_50 hl (k := 0) rfl (e_335.symm) (by decide) rfl (fun ls hl => ?_)
      refine lv_goto (tgt := 21) hx hb dX12_takeBack_53 (by decide) ?_
      exact ih_285 (x_334, g_332) _ _ _ ⟨(Rg.wk (lo2 := 0) (hi2 := 8) r_336 (by decide)), (by rw [(cN_add (k := 1) e_335 r_290 (Rg.c (c := Int32.ofInt 1) (k := 1) rfl) (by decide))]; exact rb_333), hP, hD, hS, lv_sub hl [0, 1] rfl⟩ (ms_up e_335 r_290 (Rg.c (c := Int32.ofInt 1) (k := 1) rfl) (by decide))
  · have r_3 : Rg 0 0 sun := Rg.eq_l c_1 r_sun (Rg.c (c := 0) (k := 0) rfl) (by decide)
    refine lv_iconst (v := (-1)) hx hb dX12_takeBack_7 (by decide) ?_
    refine W.widen (k := 0) (n := 0) (Nat.le_of_ble_eq_true rfl) (Nat.le_of_ble_eq_true rfl) ?_
    have hP9 := hP.sub (ws' := [(m0, .inr (10, (.ref mtp :: .int sta :: .int sru :: .ref msg :: .ref mln :: .ref mcl :: .ref mcs :: .ref mrd :: .int snx :: .int swr :: .int snu :: .int ste :: .int sma :: .int sde :: .int sli :: .ref mop :: .int sod :: .ref mst :: .int sto :: .ref mwd :: .ref msd :: .int sx_ :: .ref mws :: .int sun :: .ref mfr :: .ref mqu :: .ref miw :: .int sfi :: .int swa :: .long sdx :: .ref mim :: .ref mix :: .ref mmd :: []))), (msd, .inl ((cs 0), 133, .inl gsd)), (mws, .inl ((cs 0), 180, .inl gws))]) [0, 1, 2] rfl
    have hD9 := hD.sub (ws' := [(m0, .inr (10, (.ref mtp :: .int sta :: .int sru :: .ref msg :: .ref mln :: .ref mcl :: .ref mcs :: .ref mrd :: .int snx :: .int swr :: .int snu :: .int ste :: .int sma :: .int sde :: .int sli :: .ref mop :: .int sod :: .ref mst :: .int sto :: .ref mwd :: .ref msd :: .int sx_ :: .ref mws :: .int sun :: .ref mfr :: .ref mqu :: .ref miw :: .int sfi :: .int swa :: .long sdx :: .ref mim :: .ref mix :: .ref mmd :: []))), (msd, .inl ((cs 0), 133, .inl gsd)), (mws, .inl ((cs 0), 180, .inl gws))]) [0, 1, 2] (by decide) rfl
    exact W.iret (v := (-1)) hx hb hr (fun t9 ht9 hW9 => ⟨⟨_, (), rfl, trivial, ⟨sun, gsd, (Rg.wk (lo2 := 0) (hi2 := 20) r_3 (by decide)), hsi, rfl, hws, by rw [ht9]; exact hP9, hD9⟩⟩, hS.F ht9⟩) hS.2.2 dX12_takeBack_8
