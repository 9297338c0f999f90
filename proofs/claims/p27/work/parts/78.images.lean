theorem dX12_seed_0 : decode cX12_seed 0 = .ok (.iload_n 1, 1) := by decide +kernel
theorem dX12_seed_1 : decode cX12_seed 1 = .ok (.ifCond .ge 5, 3) := by decide +kernel
theorem dX12_seed_6 : decode cX12_seed 6 = .ok (.aload_n 0, 1) := by decide +kernel
theorem dX12_seed_7 : decode cX12_seed 7 = .ok (.getfield 513, 3) := by decide +kernel
theorem dX12_seed_10 : decode cX12_seed 10 = .ok (.istore_n 2, 1) := by decide +kernel
theorem dX12_seed_11 : decode cX12_seed 11 = .ok (.aload_n 0, 1) := by decide +kernel
theorem dX12_seed_12 : decode cX12_seed 12 = .ok (.iload_n 1, 1) := by decide +kernel
theorem dX12_seed_13 : decode cX12_seed 13 = .ok (.putfield 513, 3) := by decide +kernel
theorem dX12_seed_16 : decode cX12_seed 16 = .ok (.iload_n 2, 1) := by decide +kernel
theorem dX12_seed_17 : decode cX12_seed 17 = .ok (.ireturn, 1) := by decide +kernel
theorem dX12_seed_4 : decode cX12_seed 4 = .ok (.iconst (-1), 1) := by decide +kernel
theorem dX12_seed_5 : decode cX12_seed 5 = .ok (.ireturn, 1) := by decide +kernel
set_option maxHeartbeats 4000000 in
set_option maxRecDepth 100000 in
theorem c_M_seed (l : Launch) (D : va_G) (cs : Nat → ClassId) (X : XX) (sz : Nat) (m0 : Nat) (mtp : Nat) (sta : Int32) (sru : Int32) (msg : Nat) (mln : Nat) (mcl : Nat) (mcs : Nat) (mrd : Nat) (snx : Int32) (swr : Int32) (snu : Int32) (ste : Int32) (sma : Int32) (sde : Int32) (sli : Int32) (mop : Nat) (sod : Int32) (mst : Nat) (sto : Int32) (mwd : Nat) (msd : Nat) (sx_ : Int32) (mws : Nat) (sun : Int32) (mfr : Nat) (mqu : Nat) (miw : Nat) (sfi : Int32) (swa : Int32) (sdx : Int64) (mim : Nat) (mix : Nat) (mmd : Nat) (a : Int32)  : Met l yX12_seed (Cond.code yX12_seed cX12_seed 3 (some .int) :: TB) (RM 0 0 0) (va_Pc [.ref m0, .int a] (PRE D cs X [(m0, .inr (10, (.ref mtp :: .int sta :: .int sru :: .ref msg :: .ref mln :: .ref mcl :: .ref mcs :: .ref mrd :: .int snx :: .int swr :: .int snu :: .int ste :: .int sma :: .int sde :: .int sli :: .ref mop :: .int sod :: .ref mst :: .int sto :: .ref mwd :: .ref msd :: .int sx_ :: .ref mws :: .int sun :: .ref mfr :: .ref mqu :: .ref miw :: .int sfi :: .int swa :: .long sdx :: .ref mim :: .ref mix :: .ref mmd :: [])))] [] sz)) (va_Qi (S := Unit) (fun r _ => r = if a < 0 then -1 else sx_) (fun _ t => ∃ (sx_2 : Int32), (sx_2 = if a < 0 then sx_ else a) ∧ va_P D vwCl [(m0, .inr (10, (.ref mtp :: .int sta :: .int sru :: .ref msg :: .ref mln :: .ref mcl :: .ref mcs :: .ref mrd :: .int snx :: .int swr :: .int snu :: .int ste :: .int sma :: .int sde :: .int sli :: .ref mop :: .int sod :: .ref mst :: .int sto :: .ref mwd :: .ref msd :: .int sx_2 :: .ref mws :: .int sun :: .ref mfr :: .ref mqu :: .ref miw :: .int sfi :: .int swa :: .long sdx :: .ref mim :: .ref mix :: .ref mmd :: [])))] t.heap ∧ va_D (va_A [(m0, .inr (10, (.ref mtp :: .int sta :: .int sru :: .ref msg :: .ref mln :: .ref mcl :: .ref mcs :: .ref mrd :: .int snx :: .int swr :: .int snu :: .int ste :: .int sma :: .int sde :: .int sli :: .ref mop :: .int sod :: .ref mst :: .int sto :: .ref mwd :: .ref msd :: .int sx_ :: .ref mws :: .int sun :: .ref mfr :: .ref mqu :: .ref miw :: .int sfi :: .int swa :: .long sdx :: .ref mim :: .ref mix :: .ref mmd :: [])))] sz) [(m0, .inr (10, (.ref mtp :: .int sta :: .int sru :: .ref msg :: .ref mln :: .ref mcl :: .ref mcs :: .ref mrd :: .int snx :: .int swr :: .int snu :: .int ste :: .int sma :: .int sde :: .int sli :: .ref mop :: .int sod :: .ref mst :: .int sto :: .ref mwd :: .ref msd :: .int sx_2 :: .ref mws :: .int sun :: .ref mfr :: .ref mqu :: .ref miw :: .int sfi :: .int swa :: .long sdx :: .ref mim :: .ref mix :: .ref mmd :: [])))]) (va_A [(m0, .inr (10, (.ref mtp :: .int sta :: .int sru :: .ref msg :: .ref mln :: .ref mcl :: .ref mcs :: .ref mrd :: .int snx :: .int swr :: .int snu :: .int ste :: .int sma :: .int sde :: .int sli :: .ref mop :: .int sod :: .ref mst :: .int sto :: .ref mwd :: .ref msd :: .int sx_ :: .ref mws :: .int sun :: .ref mfr :: .ref mqu :: .ref miw :: .int sfi :: .int swa :: .long sdx :: .ref mim :: .ref mix :: .ref mmd :: [])))] sz)) 0 0 (va_A [(m0, .inr (10, (.ref mtp :: .int sta :: .int sru :: .ref msg :: .ref mln :: .ref mcl :: .ref mcs :: .ref mrd :: .int snx :: .int swr :: .int snu :: .int ste :: .int sma :: .int sde :: .int sli :: .ref mop :: .int sod :: .ref mst :: .int sto :: .ref mwd :: .ref msd :: .int sx_ :: .ref mws :: .int sun :: .ref mfr :: .ref mqu :: .ref miw :: .int sfi :: .int swa :: .long sdx :: .ref mim :: .ref mix :: .ref mmd :: [])))] sz) := by
  refine MET (y := yX12_seed) (cc := cX12_seed) (maxL := 3) (ret := (some .int)) (d := 0) (mc := 0) (ms := 0) (D := D) (cs := cs) (X := X) (ws := [(m0, .inr (10, (.ref mtp :: .int sta :: .int sru :: .ref msg :: .ref mln :: .ref mcl :: .ref mcs :: .ref mrd :: .int snx :: .int swr :: .int snu :: .int ste :: .int sma :: .int sde :: .int sli :: .ref mop :: .int sod :: .ref mst :: .int sto :: .ref mwd :: .ref msd :: .int sx_ :: .ref mws :: .int sun :: .ref mfr :: .ref mqu :: .ref miw :: .int sfi :: .int swa :: .long sdx :: .ref mim :: .ref mix :: .ref mmd :: [])))]) (wo := []) (sz := sz) (av := [.ref m0, .int a]) (Qc := fun A => va_Qi (S := Unit) (fun r _ => r = if a < 0 then -1 else sx_) (fun _ t => ∃ (sx_2 : Int32), (sx_2 = if a < 0 then sx_ else a) ∧ va_P D vwCl [(m0, .inr (10, (.ref mtp :: .int sta :: .int sru :: .ref msg :: .ref mln :: .ref mcl :: .ref mcs :: .ref mrd :: .int snx :: .int swr :: .int snu :: .int ste :: .int sma :: .int sde :: .int sli :: .ref mop :: .int sod :: .ref mst :: .int sto :: .ref mwd :: .ref msd :: .int sx_2 :: .ref mws :: .int sun :: .ref mfr :: .ref mqu :: .ref miw :: .int sfi :: .int swa :: .long sdx :: .ref mim :: .ref mix :: .ref mmd :: [])))] t.heap ∧ va_D A [(m0, .inr (10, (.ref mtp :: .int sta :: .int sru :: .ref msg :: .ref mln :: .ref mcl :: .ref mcs :: .ref mrd :: .int snx :: .int swr :: .int snu :: .int ste :: .int sma :: .int sde :: .int sli :: .ref mop :: .int sod :: .ref mst :: .int sto :: .ref mwd :: .ref msd :: .int sx_2 :: .ref mws :: .int sun :: .ref mfr :: .ref mqu :: .ref miw :: .int sfi :: .int swa :: .long sdx :: .ref mim :: .ref mix :: .ref mmd :: [])))]) A) (by decide) (Nat.le_of_ble_eq_true rfl) ?_
  intro p e s m below meth c ls A H hHe hx hb hr hml hown hts hlocks hnm hP hK hD hA hS hN hR hX hXs hl
  have hD : va_D A [(m0, .inr (10, (.ref mtp :: .int sta :: .int sru :: .ref msg :: .ref mln :: .ref mcl :: .ref mcs :: .ref mrd :: .int snx :: .int swr :: .int snu :: .int ste :: .int sma :: .int sde :: .int sli :: .ref mop :: .int sod :: .ref mst :: .int sto :: .ref mwd :: .ref msd :: .int sx_ :: .ref mws :: .int sun :: .ref mfr :: .ref mqu :: .ref miw :: .int sfi :: .int swa :: .long sdx :: .ref mim :: .ref mix :: .ref mmd :: [])))] := hD
  obtain ⟨locs, hlc⟩ : ∃ z : List Loc, z = [] := ⟨_, rfl⟩
  rw [← hlc] at hS ⊢
  have hown : s.vm.findClass "WrongHoleModel" = some m.cls := hown
  have hT : ∀ w ∈ TB, w.before ([.ref m0, .int a] : List Value).toArray s = true := fun w h => hts w (List.mem_cons_of_mem _ h)
  have hl : lv_has ls 3 [(0, .ref m0), (1, .int a)] := hl
  have hP : va_P D vwCl [(m0, .inr (10, (.ref mtp :: .int sta :: .int sru :: .ref msg :: .ref mln :: .ref mcl :: .ref mcs :: .ref mrd :: .int snx :: .int swr :: .int snu :: .int ste :: .int sma :: .int sde :: .int sli :: .ref mop :: .int sod :: .ref mst :: .int sto :: .ref mwd :: .ref msd :: .int sx_ :: .ref mws :: .int sun :: .ref mfr :: .ref mqu :: .ref miw :: .int sfi :: .int swa :: .long sdx :: .ref mim :: .ref mix :: .ref mmd :: [])))] H := hP
  refine lv_iload_n hx hb dX12_seed_0 rfl (lv_at hl 1 rfl) ?_
  refine lv_if_ge (tgt := 6) hx hb dX12_seed_1 (by decide) (fun c_1 => ?_) (fun c_1 => ?_)
  · have r_2 : Rg 0 2147483647 a := Rg.le_r c_1 (Rg.c (c := 0) (k := 0) rfl) (Rg.top a) (by decide)
    refine lv_aload_n hx hb dX12_seed_6 rfl (lv_at hl 0 rfl) ?_
    refine va_get (D := D) (ci := 10) (v := .int sx_) (C := "WrongHoleModel") (T := TX12) (N := 33) hx hb hts (iq_RX12 _) hown hK hP 0 rfl rfl 21 (by decide) (hT _ qq_5_173) (fun _ h9 => h9) rfl dX12_seed_7 ?_
    refine lv_istore_n (lv' := [(2, .int sx_), (0, .ref m0), (1, .int a)]) hx hb dX12_seed_10 rfl hl (by decide) rfl (fun ls hl => ?_)
    refine lv_aload_n hx hb dX12_seed_11 rfl (lv_at hl 1 rfl) ?_
    refine lv_iload_n hx hb dX12_seed_12 rfl (lv_at hl 2 rfl) ?_
    refine va_put (D := D) (ci := 10) (v := .int a) (ty := .int) (C := "WrongHoleModel") (T := TX12) (N := 33) hx hb hts (iq_RX12 _) tyX12 tyX12_ok nmX12 hown hK hP hD hS 0 rfl rfl 21 (by decide) (hT _ qq_5_173) (fun _ h9 => h9) rfl (by decide +kernel) rfl rfl (Nat.le_of_ble_eq_true rfl) dX12_seed_13 (fun H locs hP hD hS => ?_)
    have hP : va_P D vwCl [(m0, .inr (10, (.ref mtp :: .int sta :: .int sru :: .ref msg :: .ref mln :: .ref mcl :: .ref mcs :: .ref mrd :: .int snx :: .int swr :: .int snu :: .int ste :: .int sma :: .int sde :: .int sli :: .ref mop :: .int sod :: .ref mst :: .int sto :: .ref mwd :: .ref msd :: .int a :: .ref mws :: .int sun :: .ref mfr :: .ref mqu :: .ref miw :: .int sfi :: .int swa :: .long sdx :: .ref mim :: .ref mix :: .ref mmd :: [])))] H := hP
    have hD : va_D A [(m0, .inr (10, (.ref mtp :: .int sta :: .int sru :: .ref msg :: .ref mln :: .ref mcl :: .ref mcs :: .ref mrd :: .int snx :: .int swr :: .int snu :: .int ste :: .int sma :: .int sde :: .int sli :: .ref mop :: .int sod :: .ref mst :: .int sto :: .ref mwd :: .ref msd :: .int a :: .ref mws :: .int sun :: .ref mfr :: .ref mqu :: .ref miw :: .int sfi :: .int swa :: .long sdx :: .ref mim :: .ref mix :: .ref mmd :: [])))] := hD
    refine lv_iload_n hx hb dX12_seed_16 rfl (lv_at hl 0 rfl) ?_
    refine W.widen (k := 0) (n := 0) (Nat.le_of_ble_eq_true rfl) (Nat.le_of_ble_eq_true rfl) ?_
    have hP9 := hP.sub (ws' := [(m0, .inr (10, (.ref mtp :: .int sta :: .int sru :: .ref msg :: .ref mln :: .ref mcl :: .ref mcs :: .ref mrd :: .int snx :: .int swr :: .int snu :: .int ste :: .int sma :: .int sde :: .int sli :: .ref mop :: .int sod :: .ref mst :: .int sto :: .ref mwd :: .ref msd :: .int a :: .ref mws :: .int sun :: .ref mfr :: .ref mqu :: .ref miw :: .int sfi :: .int swa :: .long sdx :: .ref mim :: .ref mix :: .ref mmd :: [])))]) [0] rfl
    have hD9 := hD.sub (ws' := [(m0, .inr (10, (.ref mtp :: .int sta :: .int sru :: .ref msg :: .ref mln :: .ref mcl :: .ref mcs :: .ref mrd :: .int snx :: .int swr :: .int snu :: .int ste :: .int sma :: .int sde :: .int sli :: .ref mop :: .int sod :: .ref mst :: .int sto :: .ref mwd :: .ref msd :: .int a :: .ref mws :: .int sun :: .ref mfr :: .ref mqu :: .ref miw :: .int sfi :: .int swa :: .long sdx :: .ref mim :: .ref mix :: .ref mmd :: [])))]) [0] (by decide) rfl
    exact W.iret (v := sx_) hx hb hr (fun t9 ht9 hW9 => ⟨⟨_, (), rfl, (by rw [if_neg (i_C2 c_1)]), ⟨a, (by rw [if_neg (i_C2 c_1)]), by rw [ht9]; exact hP9, hD9⟩⟩, hS.F ht9⟩) hS.2.2 dX12_seed_17
  · have r_3 : Rg (-2147483648) (-1) a := Rg.lt_l (nle_lt c_1) (Rg.top a) (Rg.c (c := 0) (k := 0) rfl) (by decide)
    refine lv_iconst (v := (-1)) hx hb dX12_seed_4 (by decide) ?_
    refine W.widen (k := 0) (n := 0) (Nat.le_of_ble_eq_true rfl) (Nat.le_of_ble_eq_true rfl) ?_
    have hP9 := hP.sub (ws' := [(m0, .inr (10, (.ref mtp :: .int sta :: .int sru :: .ref msg :: .ref mln :: .ref mcl :: .ref mcs :: .ref mrd :: .int snx :: .int swr :: .int snu :: .int ste :: .int sma :: .int sde :: .int sli :: .ref mop :: .int sod :: .ref mst :: .int sto :: .ref mwd :: .ref msd :: .int sx_ :: .ref mws :: .int sun :: .ref mfr :: .ref mqu :: .ref miw :: .int sfi :: .int swa :: .long sdx :: .ref mim :: .ref mix :: .ref mmd :: [])))]) [0] rfl
    have hD9 := hD.sub (ws' := [(m0, .inr (10, (.ref mtp :: .int sta :: .int sru :: .ref msg :: .ref mln :: .ref mcl :: .ref mcs :: .ref mrd :: .int snx :: .int swr :: .int snu :: .int ste :: .int sma :: .int sde :: .int sli :: .ref mop :: .int sod :: .ref mst :: .int sto :: .ref mwd :: .ref msd :: .int sx_ :: .ref mws :: .int sun :: .ref mfr :: .ref mqu :: .ref miw :: .int sfi :: .int swa :: .long sdx :: .ref mim :: .ref mix :: .ref mmd :: [])))]) [0] (by decide) rfl
    exact W.iret (v := (-1)) hx hb hr (fun t9 ht9 hW9 => ⟨⟨_, (), rfl, (by rw [if_pos (nle_lt c_1)]), ⟨sx_, (by rw [if_pos (nle_lt c_1)]), by rw [ht9]; exact hP9, hD9⟩⟩, hS.F ht9⟩) hS.2.2 dX12_seed_5
theorem dX12_count_0 : decode cX12_count 0 = .ok (.iconst 0, 1) := by decide +kernel
theorem dX12_count_1 : decode cX12_count 1 = .ok (.istore_n 2, 1) := by decide +kernel
theorem dX12_count_2 : decode cX12_count 2 = .ok (.iload_n 1, 1) := by decide +kernel
theorem dX12_count_3 : decode cX12_count 3 = .ok (.tableswitch 174 0 11 #[61, 61, 68, 73, 80, 87, 92, 111, 119, 128, 164, 169], 61) := by decide +kernel
theorem dX12_count_177 : decode cX12_count 177 = .ok (.iconst (-1), 1) := by decide +kernel
theorem dX12_count_178 : decode cX12_count 178 = .ok (.ireturn, 1) := by decide +kernel
theorem dX12_count_64 : decode cX12_count 64 = .ok (.aload_n 0, 1) := by decide +kernel
theorem dX12_count_65 : decode cX12_count 65 = .ok (.getfield 39, 3) := by decide +kernel
theorem dX12_count_68 : decode cX12_count 68 = .ok (.iload_n 1, 1) := by decide +kernel
theorem dX12_count_69 : decode cX12_count 69 = .ok (.iaload, 1) := by decide +kernel
theorem dX12_count_70 : decode cX12_count 70 = .ok (.ireturn, 1) := by decide +kernel
theorem dX12_count_71 : decode cX12_count 71 = .ok (.aload_n 0, 1) := by decide +kernel
theorem dX12_count_72 : decode cX12_count 72 = .ok (.getfield 295, 3) := by decide +kernel
theorem qq_5_154 : Cond.fieldLink "WrongHoleModel" 295 "WrongHoleModel" "rules" "I" ∈ TB := mk_tb (ti_5 (List.mem_of_getElem? (i := 154) rfl)) rfl
theorem dX12_count_75 : decode cX12_count 75 = .ok (.ireturn, 1) := by decide +kernel
theorem dX12_count_76 : decode cX12_count 76 = .ok (.aload_n 0, 1) := by decide +kernel
theorem dX12_count_77 : decode cX12_count 77 = .ok (.getfield 39, 3) := by decide +kernel
theorem dX12_count_80 : decode cX12_count 80 = .ok (.iconst 2, 1) := by decide +kernel
theorem dX12_count_81 : decode cX12_count 81 = .ok (.iaload, 1) := by decide +kernel
theorem dX12_count_82 : decode cX12_count 82 = .ok (.ireturn, 1) := by decide +kernel
theorem dX12_count_83 : decode cX12_count 83 = .ok (.aload_n 0, 1) := by decide +kernel
theorem dX12_count_84 : decode cX12_count 84 = .ok (.getfield 39, 3) := by decide +kernel
theorem dX12_count_87 : decode cX12_count 87 = .ok (.iconst 3, 1) := by decide +kernel
theorem dX12_count_88 : decode cX12_count 88 = .ok (.iaload, 1) := by decide +kernel
theorem dX12_count_89 : decode cX12_count 89 = .ok (.ireturn, 1) := by decide +kernel
theorem dX12_count_90 : decode cX12_count 90 = .ok (.aload_n 0, 1) := by decide +kernel
theorem dX12_count_91 : decode cX12_count 91 = .ok (.getfield 301, 3) := by decide +kernel
theorem dX12_count_94 : decode cX12_count 94 = .ok (.ireturn, 1) := by decide +kernel
theorem dX12_count_95 : decode cX12_count 95 = .ok (.aload_n 0, 1) := by decide +kernel
theorem dX12_count_96 : decode cX12_count 96 = .ok (.invokevirtual 397, 3) := by decide +kernel
theorem dX12_count_99 : decode cX12_count 99 = .ok (.ifCond .eq 13, 3) := by decide +kernel
theorem dX12_count_112 : decode cX12_count 112 = .ok (.iconst (-1), 1) := by decide +kernel
theorem dX12_count_113 : decode cX12_count 113 = .ok (.ireturn, 1) := by decide +kernel
theorem dX12_count_102 : decode cX12_count 102 = .ok (.aload_n 0, 1) := by decide +kernel
theorem dX12_count_103 : decode cX12_count 103 = .ok (.getfield 39, 3) := by decide +kernel
theorem dX12_count_106 : decode cX12_count 106 = .ok (.bipush 6, 2) := by decide +kernel
theorem dX12_count_108 : decode cX12_count 108 = .ok (.iaload, 1) := by decide +kernel
theorem dX12_count_109 : decode cX12_count 109 = .ok (.goto 4, 3) := by decide +kernel
theorem dX12_count_114 : decode cX12_count 114 = .ok (.aload_n 0, 1) := by decide +kernel
theorem dX12_count_115 : decode cX12_count 115 = .ok (.getfield 39, 3) := by decide +kernel
theorem dX12_count_118 : decode cX12_count 118 = .ok (.bipush 7, 2) := by decide +kernel
theorem dX12_count_120 : decode cX12_count 120 = .ok (.iaload, 1) := by decide +kernel
theorem dX12_count_121 : decode cX12_count 121 = .ok (.ireturn, 1) := by decide +kernel
theorem dX12_count_122 : decode cX12_count 122 = .ok (.aload_n 0, 1) := by decide +kernel
theorem dX12_count_123 : decode cX12_count 123 = .ok (.getfield 39, 3) := by decide +kernel
theorem dX12_count_126 : decode cX12_count 126 = .ok (.sipush 132, 3) := by decide +kernel
theorem dX12_count_129 : decode cX12_count 129 = .ok (.iaload, 1) := by decide +kernel
theorem dX12_count_130 : decode cX12_count 130 = .ok (.ireturn, 1) := by decide +kernel
theorem dX12_count_131 : decode cX12_count 131 = .ok (.iconst 0, 1) := by decide +kernel
theorem dX12_count_132 : decode cX12_count 132 = .ok (.istore_n 3, 1) := by decide +kernel
theorem dX12_count_133 : decode cX12_count 133 = .ok (.iload_n 3, 1) := by decide +kernel
theorem dX12_count_134 : decode cX12_count 134 = .ok (.bipush 10, 2) := by decide +kernel
theorem dX12_count_136 : decode cX12_count 136 = .ok (.if_icmp .ge 29, 3) := by decide +kernel
theorem dX12_count_165 : decode cX12_count 165 = .ok (.iload_n 2, 1) := by decide +kernel
theorem dX12_count_166 : decode cX12_count 166 = .ok (.ireturn, 1) := by decide +kernel
theorem dX12_count_139 : decode cX12_count 139 = .ok (.iload_n 2, 1) := by decide +kernel
theorem dX12_count_140 : decode cX12_count 140 = .ok (.aload_n 0, 1) := by decide +kernel
theorem dX12_count_141 : decode cX12_count 141 = .ok (.getfield 39, 3) := by decide +kernel
theorem dX12_count_144 : decode cX12_count 144 = .ok (.bipush 92, 2) := by decide +kernel
theorem dX12_count_146 : decode cX12_count 146 = .ok (.iload_n 3, 1) := by decide +kernel
theorem dX12_count_147 : decode cX12_count 147 = .ok (.iadd, 1) := by decide +kernel
theorem dX12_count_148 : decode cX12_count 148 = .ok (.iaload, 1) := by decide +kernel
theorem dX12_count_149 : decode cX12_count 149 = .ok (.ifCond .ge 7, 3) := by decide +kernel
theorem dX12_count_157 : decode cX12_count 157 = .ok (.iadd, 1) := by decide +kernel
theorem dX12_count_158 : decode cX12_count 158 = .ok (.istore_n 2, 1) := by decide +kernel
theorem dX12_count_159 : decode cX12_count 159 = .ok (.iinc 3 1, 3) := by decide +kernel
theorem dX12_count_162 : decode cX12_count 162 = .ok (.goto (-29), 3) := by decide +kernel
theorem dX12_count_156 : decode cX12_count 156 = .ok (.iconst 0, 1) := by decide +kernel
theorem dX12_count_152 : decode cX12_count 152 = .ok (.iconst 1, 1) := by decide +kernel
theorem dX12_count_153 : decode cX12_count 153 = .ok (.goto 4, 3) := by decide +kernel
theorem dX12_count_167 : decode cX12_count 167 = .ok (.aload_n 0, 1) := by decide +kernel
theorem dX12_count_168 : decode cX12_count 168 = .ok (.getfield 513, 3) := by decide +kernel
theorem dX12_count_171 : decode cX12_count 171 = .ok (.ireturn, 1) := by decide +kernel
theorem dX12_count_172 : decode cX12_count 172 = .ok (.aload_n 0, 1) := by decide +kernel
theorem dX12_count_173 : decode cX12_count 173 = .ok (.getfield 65, 3) := by decide +kernel
theorem qq_5_153 : Cond.fieldLink "WrongHoleModel" 65 "WrongHoleModel" "taped" "I" ∈ TB := mk_tb (ti_5 (List.mem_of_getElem? (i := 153) rfl)) rfl
theorem dX12_count_176 : decode cX12_count 176 = .ok (.ireturn, 1) := by decide +kernel
set_option maxHeartbeats 4000000 in
set_option maxRecDepth 100000 in
theorem c_M_count (l : Launch) (D : va_G) (cs : Nat → ClassId) (m0 : Nat) (mtp : Nat) (sta : Int32) (sru : Int32) (msg : Nat) (mln : Nat) (mcl : Nat) (mcs : Nat) (mrd : Nat) (snx : Int32) (swr : Int32) (snu : Int32) (ste : Int32) (sma : Int32) (sde : Int32) (sli : Int32) (mop : Nat) (sod : Int32) (mst : Nat) (sto : Int32) (mwd : Nat) (msd : Nat) (sx_ : Int32) (mws : Nat) (sun : Int32) (mfr : Nat) (mqu : Nat) (miw : Nat) (sfi : Int32) (swa : Int32) (sdx : Int64) (mim : Nat) (mix : Nat) (mmd : Nat) (gsd : Nat → Int32) (a : Int32) (hsi : SI gsd) : Met l yX12_count (Cond.code yX12_count cX12_count 4 (some .int) :: TB) (RM 1 0 0) (va_Pc [.ref m0, .int a] (PRR D cs [(m0, .inr (10, (.ref mtp :: .int sta :: .int sru :: .ref msg :: .ref mln :: .ref mcl :: .ref mcs :: .ref mrd :: .int snx :: .int swr :: .int snu :: .int ste :: .int sma :: .int sde :: .int sli :: .ref mop :: .int sod :: .ref mst :: .int sto :: .ref mwd :: .ref msd :: .int sx_ :: .ref mws :: .int sun :: .ref mfr :: .ref mqu :: .ref miw :: .int sfi :: .int swa :: .long sdx :: .ref mim :: .ref mix :: .ref mmd :: []))), (msd, .inl ((cs 0), 133, .inl gsd))])) (QP (fun v => ∃ x : Int32, v = .int x)) 0 0 (fun _ => False) := by
  refine MER (y := yX12_count) (cc := cX12_count) (maxL := 4) (ret := (some .int)) (d := 1) (D := D) (cs := cs) (ws := [(m0, .inr (10, (.ref mtp :: .int sta :: .int sru :: .ref msg :: .ref mln :: .ref mcl :: .ref mcs :: .ref mrd :: .int snx :: .int swr :: .int snu :: .int ste :: .int sma :: .int sde :: .int sli :: .ref mop :: .int sod :: .ref mst :: .int sto :: .ref mwd :: .ref msd :: .int sx_ :: .ref mws :: .int sun :: .ref mfr :: .ref mqu :: .ref miw :: .int sfi :: .int swa :: .long sdx :: .ref mim :: .ref mix :: .ref mmd :: []))), (msd, .inl ((cs 0), 133, .inl gsd))]) (av := [.ref m0, .int a]) (Qc := QP (fun v => ∃ x : Int32, v = .int x)) (by decide) (Nat.le_of_ble_eq_true rfl) ?_
  intro p e s m below meth c ls H hHe hx hb hr hml hown hts hlocks hP hK hN hl
  obtain ⟨locs, hlc⟩ : ∃ z : List Loc, z = [] := ⟨_, rfl⟩
  rw [← hlc]
  have hown : s.vm.findClass "WrongHoleModel" = some m.cls := hown
  have hT : ∀ w ∈ TB, w.before ([.ref m0, .int a] : List Value).toArray s = true := fun w h => hts w (List.mem_cons_of_mem _ h)
  have hl : lv_has ls 4 [(0, .ref m0), (1, .int a)] := hl
  have hP : va_P D vwCl [(m0, .inr (10, (.ref mtp :: .int sta :: .int sru :: .ref msg :: .ref mln :: .ref mcl :: .ref mcs :: .ref mrd :: .int snx :: .int swr :: .int snu :: .int ste :: .int sma :: .int sde :: .int sli :: .ref mop :: .int sod :: .ref mst :: .int sto :: .ref mwd :: .ref msd :: .int sx_ :: .ref mws :: .int sun :: .ref mfr :: .ref mqu :: .ref miw :: .int sfi :: .int swa :: .long sdx :: .ref mim :: .ref mix :: .ref mmd :: []))), (msd, .inl ((cs 0), 133, .inl gsd))] H := hP
  refine lv_iconst (v := 0) hx hb dX12_count_0 (by decide) ?_
  refine lv_istore_n (lv' := [(2, .int 0), (0, .ref m0), (1, .int a)]) hx hb dX12_count_1 rfl hl (by decide) rfl (fun ls hl => ?_)
  refine lv_iload_n hx hb dX12_count_2 rfl (lv_at hl 2 rfl) ?_
  rcases sw_0_11 a with c_1 | c_1 | c_1 | c_1 | c_1 | c_1 | c_1 | c_1 | c_1 | c_1 | c_1 | c_1 | c_1
  · refine lv_tableOut (tgt := 177) hx hb dX12_count_3 c_1 (by decide) ?_
    refine lv_iconst (v := (-1)) hx hb dX12_count_177 (by decide) ?_
    exact W.iret (v := (-1)) hx hb hr (fun t9 ht9 hW9 => ⟨⟨_, rfl, _, rfl⟩, ht9.trans hHe⟩) (fun _ h9 => by rw [hlc] at h9; exact absurd h9 List.not_mem_nil) dX12_count_178
  · refine tc_i 0 c_1 ?_
    have r_2 : Rg 0 0 a := Rg.of c_1 (Rg.c rfl)
    refine lv_tableIn (tgt := 64) hx hb dX12_count_3 (by decide) (by decide) rfl (by decide) ?_
    refine lv_aload_n hx hb dX12_count_64 rfl (lv_at hl 1 rfl) ?_
    refine va_get (D := D) (ci := 10) (v := .ref msd) (C := "WrongHoleModel") (T := TX12) (N := 33) hx hb hts (iq_RX12 _) hown hK hP 0 rfl rfl 20 (by decide) (hT _ qq_5_172) (fun _ h9 => h9) rfl dX12_count_65 ?_
    refine lv_iload_n hx hb dX12_count_68 rfl (lv_at hl 2 rfl) ?_
    have hi_14 : vp_in a 133 := Rg.in r_2 (by decide)
    refine va_iald hx hb hK hP 1 0 rfl rfl hi_14 dX12_count_69 ?_
    refine lv_topi (fun x_15 e_16 => ?_)
    exact W.iret (v := x_15) hx hb hr (fun t9 ht9 hW9 => ⟨⟨_, rfl, _, rfl⟩, ht9.trans hHe⟩) (fun _ h9 => by rw [hlc] at h9; exact absurd h9 List.not_mem_nil) dX12_count_70
  · refine tc_i 1 c_1 ?_
    have r_3 : Rg 1 1 a := Rg.of c_1 (Rg.c rfl)
    refine lv_tableIn (tgt := 64) hx hb dX12_count_3 (by decide) (by decide) rfl (by decide) ?_
    refine lv_aload_n hx hb dX12_count_64 rfl (lv_at hl 1 rfl) ?_
    refine va_get (D := D) (ci := 10) (v := .ref msd) (C := "WrongHoleModel") (T := TX12) (N := 33) hx hb hts (iq_RX12 _) hown hK hP 0 rfl rfl 20 (by decide) (hT _ qq_5_172) (fun _ h9 => h9) rfl dX12_count_65 ?_
    refine lv_iload_n hx hb dX12_count_68 rfl (lv_at hl 2 rfl) ?_
    have hi_17 : vp_in a 133 := Rg.in r_3 (by decide)
    refine va_iald hx hb hK hP 1 0 rfl rfl hi_17 dX12_count_69 ?_
    refine lv_topi (fun x_18 e_19 => ?_)
    exact W.iret (v := x_18) hx hb hr (fun t9 ht9 hW9 => ⟨⟨_, rfl, _, rfl⟩, ht9.trans hHe⟩) (fun _ h9 => by rw [hlc] at h9; exact absurd h9 List.not_mem_nil) dX12_count_70
  · refine tc_i 2 c_1 ?_
    have r_4 : Rg 2 2 a := Rg.of c_1 (Rg.c rfl)
    refine lv_tableIn (tgt := 71) hx hb dX12_count_3 (by decide) (by decide) rfl (by decide) ?_
    refine lv_aload_n hx hb dX12_count_71 rfl (lv_at hl 1 rfl) ?_
    refine va_get (D := D) (ci := 10) (v := .int sru) (C := "WrongHoleModel") (T := TX12) (N := 33) hx hb hts (iq_RX12 _) hown hK hP 0 rfl rfl 2 (by decide) (hT _ qq_5_154) (fun _ h9 => h9) rfl dX12_count_72 ?_
    exact W.iret (v := sru) hx hb hr (fun t9 ht9 hW9 => ⟨⟨_, rfl, _, rfl⟩, ht9.trans hHe⟩) (fun _ h9 => by rw [hlc] at h9; exact absurd h9 List.not_mem_nil) dX12_count_75
  · refine tc_i 3 c_1 ?_
    have r_5 : Rg 3 3 a := Rg.of c_1 (Rg.c rfl)
    refine lv_tableIn (tgt := 76) hx hb dX12_count_3 (by decide) (by decide) rfl (by decide) ?_
    refine lv_aload_n hx hb dX12_count_76 rfl (lv_at hl 1 rfl) ?_
    refine va_get (D := D) (ci := 10) (v := .ref msd) (C := "WrongHoleModel") (T := TX12) (N := 33) hx hb hts (iq_RX12 _) hown hK hP 0 rfl rfl 20 (by decide) (hT _ qq_5_172) (fun _ h9 => h9) rfl dX12_count_77 ?_
    refine lv_iconst (v := 2) hx hb dX12_count_80 (by decide) ?_
    have hi_20 : vp_in 2 133 := vi_c rfl
    refine va_iald hx hb hK hP 1 0 rfl rfl hi_20 dX12_count_81 ?_
    refine lv_topi (fun x_21 e_22 => ?_)
    have r_23 : Rg 0 6 x_21 := Rg.of e_22 (hsi.a2)
    exact W.iret (v := x_21) hx hb hr (fun t9 ht9 hW9 => ⟨⟨_, rfl, _, rfl⟩, ht9.trans hHe⟩) (fun _ h9 => by rw [hlc] at h9; exact absurd h9 List.not_mem_nil) dX12_count_82
  · refine tc_i 4 c_1 ?_
    have r_6 : Rg 4 4 a := Rg.of c_1 (Rg.c rfl)
    refine lv_tableIn (tgt := 83) hx hb dX12_count_3 (by decide) (by decide) rfl (by decide) ?_
    refine lv_aload_n hx hb dX12_count_83 rfl (lv_at hl 1 rfl) ?_
    refine va_get (D := D) (ci := 10) (v := .ref msd) (C := "WrongHoleModel") (T := TX12) (N := 33) hx hb hts (iq_RX12 _) hown hK hP 0 rfl rfl 20 (by decide) (hT _ qq_5_172) (fun _ h9 => h9) rfl dX12_count_84 ?_
    refine lv_iconst (v := 3) hx hb dX12_count_87 (by decide) ?_
    have hi_24 : vp_in 3 133 := vi_c rfl
    refine va_iald hx hb hK hP 1 0 rfl rfl hi_24 dX12_count_88 ?_
    refine lv_topi (fun x_25 e_26 => ?_)
    have r_27 : Rg 0 9999 x_25 := Rg.of e_26 (hsi.a3)
    exact W.iret (v := x_25) hx hb hr (fun t9 ht9 hW9 => ⟨⟨_, rfl, _, rfl⟩, ht9.trans hHe⟩) (fun _ h9 => by rw [hlc] at h9; exact absurd h9 List.not_mem_nil) dX12_count_89
  · refine tc_i 5 c_1 ?_
    have r_7 : Rg 5 5 a := Rg.of c_1 (Rg.c rfl)
    refine lv_tableIn (tgt := 90) hx hb dX12_count_3 (by decide) (by decide) rfl (by decide) ?_
    refine lv_aload_n hx hb dX12_count_90 rfl (lv_at hl 1 rfl) ?_
    refine va_get (D := D) (ci := 10) (v := .int sun) (C := "WrongHoleModel") (T := TX12) (N := 33) hx hb hts (iq_RX12 _) hown hK hP 0 rfl rfl 23 (by decide) (hT _ qq_5_175) (fun _ h9 => h9) rfl dX12_count_91 ?_
    exact W.iret (v := sun) hx hb hr (fun t9 ht9 hW9 => ⟨⟨_, rfl, _, rfl⟩, ht9.trans hHe⟩) (fun _ h9 => by rw [hlc] at h9; exact absurd h9 List.not_mem_nil) dX12_count_94
  · refine tc_i 6 c_1 ?_
    have r_8 : Rg 6 6 a := Rg.of c_1 (Rg.c rfl)
    refine lv_tableIn (tgt := 95) hx hb dX12_count_3 (by decide) (by decide) rfl (by decide) ?_
    refine lv_aload_n hx hb dX12_count_95 rfl (lv_at hl 1 rfl) ?_
    have hPc := va_P.sub (ws' := [(m0, .inr (10, (.ref mtp :: .int sta :: .int sru :: .ref msg :: .ref mln :: .ref mcl :: .ref mcs :: .ref mrd :: .int snx :: .int swr :: .int snu :: .int ste :: .int sma :: .int sde :: .int sli :: .ref mop :: .int sod :: .ref mst :: .int sto :: .ref mwd :: .ref msd :: .int sx_ :: .ref mws :: .int sun :: .ref mfr :: .ref mqu :: .ref miw :: .int sfi :: .int swa :: .long sdx :: .ref mim :: .ref mix :: .ref mmd :: []))), (msd, .inl ((cs 0), 133, .inl gsd))]) hP [0, 1] rfl
    refine cl_P (W.runV (As := []) (rest := []) ⟨hx, hb, hml, hown, hts⟩ (c_M_isLift l D cs m0 mtp sta sru msg mln mcl mcs mrd snx swr snu ste sma sde sli mop sod mst sto mwd msd sx_ mws sun mfr mqu miw sfi swa sdx mim mix mmd gsd hsi) ⟨callB_of 0 hts (gd_C qq_7_46) rfl rfl rfl (hT _ qq_1_9) (hT _ qq_7_43) (by decide +kernel) (rm_R rfl rfl), (hT _ qq_7_45), (hT _ qs_5_2)⟩ (pq_V hPc hK hN (ci := 10) (q0 := 0) rfl rfl) rfl rfl hl.1 rfl (lv_room (Nat.le_of_ble_eq_true rfl)) dX12_count_96 ⟨Nat.le_of_ble_eq_true rfl, Nat.le_of_ble_eq_true rfl⟩) (fun v9 hz_29 => ?_)
    obtain ⟨x_28, rfl, r_30⟩ := hz_29
    refine lv_if_eq (tgt := 112) hx hb dX12_count_99 (by decide) (fun c_31 => ?_) (fun c_31 => ?_)
    · have r_32 : Rg 0 0 x_28 := Rg.eq_l c_31 r_30.1 (Rg.c (c := 0) (k := 0) rfl) (by decide)
      refine lv_iconst (v := (-1)) hx hb dX12_count_112 (by decide) ?_
      exact W.iret (v := (-1)) hx hb hr (fun t9 ht9 hW9 => ⟨⟨_, rfl, _, rfl⟩, ht9.trans hHe⟩) (fun _ h9 => by rw [hlc] at h9; exact absurd h9 List.not_mem_nil) dX12_count_113
    · have r_33 : Rg 1 1 x_28 := Rg.ne c_31 r_30.1 (Rg.c (c := 0) (k := 0) rfl) (by decide)
      refine lv_aload_n hx hb dX12_count_102 rfl (lv_at hl 1 rfl) ?_
      refine va_get (D := D) (ci := 10) (v := .ref msd) (C := "WrongHoleModel") (T := TX12) (N := 33) hx hb hts (iq_RX12 _) hown hK hP 0 rfl rfl 20 (by decide) (hT _ qq_5_172) (fun _ h9 => h9) rfl dX12_count_103 ?_
      refine lv_bipush (v := 6) hx hb dX12_count_106 (by decide) ?_
      have hi_37 : vp_in 6 133 := vi_c rfl
      refine va_iald hx hb hK hP 1 0 rfl rfl hi_37 dX12_count_108 ?_
      refine lv_topi (fun x_38 e_39 => ?_)
      have r_40 : Rg 0 8 x_38 := Rg.of e_39 (hsi.a6)
      refine lv_goto (tgt := 113) hx hb dX12_count_109 (by decide) ?_
      exact W.iret (v := x_38) hx hb hr (fun t9 ht9 hW9 => ⟨⟨_, rfl, _, rfl⟩, ht9.trans hHe⟩) (fun _ h9 => by rw [hlc] at h9; exact absurd h9 List.not_mem_nil) dX12_count_113
  · refine tc_i 7 c_1 ?_
    have r_9 : Rg 7 7 a := Rg.of c_1 (Rg.c rfl)
    refine lv_tableIn (tgt := 114) hx hb dX12_count_3 (by decide) (by decide) rfl (by decide) ?_
    refine lv_aload_n hx hb dX12_count_114 rfl (lv_at hl 1 rfl) ?_
    refine va_get (D := D) (ci := 10) (v := .ref msd) (C := "WrongHoleModel") (T := TX12) (N := 33) hx hb hts (iq_RX12 _) hown hK hP 0 rfl rfl 20 (by decide) (hT _ qq_5_172) (fun _ h9 => h9) rfl dX12_count_115 ?_
    refine lv_bipush (v := 7) hx hb dX12_count_118 (by decide) ?_
    have hi_41 : vp_in 7 133 := vi_c rfl
    refine va_iald hx hb hK hP 1 0 rfl rfl hi_41 dX12_count_120 ?_
    refine lv_topi (fun x_42 e_43 => ?_)
    exact W.iret (v := x_42) hx hb hr (fun t9 ht9 hW9 => ⟨⟨_, rfl, _, rfl⟩, ht9.trans hHe⟩) (fun _ h9 => by rw [hlc] at h9; exact absurd h9 List.not_mem_nil) dX12_count_121
  · refine tc_i 8 c_1 ?_
    have r_10 : Rg 8 8 a := Rg.of c_1 (Rg.c rfl)
    refine lv_tableIn (tgt := 122) hx hb dX12_count_3 (by decide) (by decide) rfl (by decide) ?_
    refine lv_aload_n hx hb dX12_count_122 rfl (lv_at hl 1 rfl) ?_
    refine va_get (D := D) (ci := 10) (v := .ref msd) (C := "WrongHoleModel") (T := TX12) (N := 33) hx hb hts (iq_RX12 _) hown hK hP 0 rfl rfl 20 (by decide) (hT _ qq_5_172) (fun _ h9 => h9) rfl dX12_count_123 ?_
    refine lv_sipush (v := 132) hx hb dX12_count_126 (by decide) ?_
    have hi_44 : vp_in 132 133 := vi_c rfl
    refine va_iald hx hb hK hP 1 0 rfl rfl hi_44 dX12_count_129 ?_
    refine lv_topi (fun x_45 e_46 => ?_)
    have r_47 : Rg 0 10 x_45 := Rg.of e_46 (hsi.a132)
    exact W.iret (v := x_45) hx hb hr (fun t9 ht9 hW9 => ⟨⟨_, rfl, _, rfl⟩, ht9.trans hHe⟩) (fun _ h9 => by rw [hlc] at h9; exact absurd h9 List.not_mem_nil) dX12_count_130
  · refine tc_i 9 c_1 ?_
    have r_11 : Rg 9 9 a := Rg.of c_1 (Rg.c rfl)
    refine lv_tableIn (tgt := 131) hx hb dX12_count_3 (by decide) (by decide) rfl (by decide) ?_
    refine lv_iconst (v := 0) hx hb dX12_count_131 (by decide) ?_
    refine lv_istore_n (lv' := [(3, .int 0), (2, .int 0), (0, .ref m0), (1, .int a)]) hx hb dX12_count_132 rfl hl (by decide) rfl (fun ls hl => ?_)
    refine w_wh (σ := (Int32) × (Int32)) (fun x9 H locs ls => match x9 with | (v_58, v_59) => Rg 0 10 v_58 ∧ H = s.heap ∧ locs = [] ∧ va_P D vwCl [(m0, .inr (10, (.ref mtp :: .int sta :: .int sru :: .ref msg :: .ref mln :: .ref mcl :: .ref mcs :: .ref mrd :: .int snx :: .int swr :: .int snu :: .int ste :: .int sma :: .int sde :: .int sli :: .ref mop :: .int sod :: .ref mst :: .int sto :: .ref mwd :: .ref msd :: .int sx_ :: .ref mws :: .int sun :: .ref mfr :: .ref mqu :: .ref miw :: .int sfi :: .int swa :: .long sdx :: .ref mim :: .ref mix :: .ref mmd :: []))), (msd, .inl ((cs 0), 133, .inl gsd))] H ∧ lv_has ls 4 [(3, .int v_58), (2, .int v_59), (0, .ref m0), (1, .int a)]) (fun x9 => match x9 with | (v_58, v_59) => (10 - Int32.toInt v_58).toNat) 133 ?_ (0, 0) H locs ls ⟨(Rg.wk (lo2 := 0) (hi2 := 10) (Rg.c (c := 0) (k := 0) rfl) (by decide)), hHe, hlc, hP, lv_sub hl [0, 1, 2, 3] rfl⟩
    rintro ⟨v_58, v_59⟩ H locs ls ⟨r_337, hHe, hlc, hP, hl⟩ ih_336
    refine lv_iload_n hx hb dX12_count_133 rfl (lv_at hl 0 rfl) ?_
    refine lv_bipush (v := 10) hx hb dX12_count_134 (by decide) ?_
    refine lv_icmp_ge (tgt := 165) hx hb dX12_count_136 (by decide) (fun c_338 => ?_) (fun c_338 => ?_)
    · have r_339 : Rg 10 10 v_58 := Rg.le_r c_338 (Rg.c (c := 10) (k := 10) rfl) r_337 (by decide)
      refine lv_iload_n hx hb dX12_count_165 rfl (lv_at hl 1 rfl) ?_
      exact W.iret (v := v_59) hx hb hr (fun t9 ht9 hW9 => ⟨⟨_, rfl, _, rfl⟩, ht9.trans hHe⟩) (fun _ h9 => by rw [hlc] at h9; exact absurd h9 List.not_mem_nil) dX12_count_166
    · have r_340 : Rg 0 9 v_58 := Rg.lt_l (nle_lt c_338) r_337 (Rg.c (c := 10) (k := 10) rfl) (by decide)
      refine lv_iload_n hx hb dX12_count_139 rfl (lv_at hl 1 rfl) ?_
      refine lv_aload_n hx hb dX12_count_140 rfl (lv_at hl 2 rfl) ?_
      refine va_get (D := D) (ci := 10) (v := .ref msd) (C := "WrongHoleModel") (T := TX12) (N := 33) hx hb hts (iq_RX12 _) hown hK hP 0 rfl rfl 20 (by decide) (hT _ qq_5_172) (fun _ h9 => h9) rfl dX12_count_141 ?_
      refine lv_bipush (v := 92) hx hb dX12_count_144 (by decide) ?_
      refine lv_iload_n hx hb dX12_count_146 rfl (lv_at hl 0 rfl) ?_
      refine lv_iadd hx hb dX12_count_147 ?_
      refine lv_topi (fun x_356 e_357 => ?_)
      have r_358 : Rg 92 101 x_356 := Rg.add e_357 (Rg.c (c := 92) (k := 92) rfl) r_340 (by decide)
      have hi_359 : vp_in x_356 133 := Rg.in r_358 (by decide)
      refine va_iald hx hb hK hP 1 0 rfl rfl hi_359 dX12_count_148 ?_
      refine lv_topi (fun x_360 e_361 => ?_)
      have r_362 : Rg (-1) 9 x_360 := Rg.of e_361 (hsi.ls r_358 (by decide))
      refine w_cut (σ := (Int32)) (fun (v_366 : Int32) H locs ls => Rg 0 1 v_366 ∧ H = s.heap ∧ locs = [] ∧ va_P D vwCl [(m0, .inr (10, (.ref mtp :: .int sta :: .int sru :: .ref msg :: .ref mln :: .ref mcl :: .ref mcs :: .ref mrd :: .int snx :: .int swr :: .int snu :: .int ste :: .int sma :: .int sde :: .int sli :: .ref mop :: .int sod :: .ref mst :: .int sto :: .ref mwd :: .ref msd :: .int sx_ :: .ref mws :: .int sun :: .ref mfr :: .ref mqu :: .ref miw :: .int sfi :: .int swa :: .long sdx :: .ref mim :: .ref mix :: .ref mmd :: []))), (msd, .inl ((cs 0), 133, .inl gsd))] H ∧ lv_has ls 4 [(3, .int v_58), (2, .int v_59), (0, .ref m0), (1, .int a)]) 157 (fun (v_366 : Int32) => [.int v_366, .int v_59]) ?_ (fun hj_367 => ?_)
      · rintro v_366 H locs ls ⟨r_368, hHe, hlc, hP, hl⟩
        refine lv_iadd hx hb dX12_count_157 ?_
        refine lv_topi (fun x_369 e_370 => ?_)
        refine lv_istore_n (lv' := [(2, .int x_369), (3, .int v_58), (0, .ref m0), (1, .int a)]) hx hb dX12_count_158 rfl hl (by decide) rfl (fun ls hl => ?_)
        obtain ⟨x_371, e_372⟩ : ∃ z : Int32, z = v_58 + Int32.ofInt 1 := ⟨_, rfl⟩
        have r_373 : Rg 1 10 x_371 := Rg.add e_372 r_340 (Rg.c (c := Int32.ofInt 1) (k := 1) rfl) (by decide)
        refine lv_iinc (v := x_371) (lv' := [(3, .int x_371), (2, .int x_369), (0, .ref m0), (1, .int a)]) hx hb dX12_count_159 hl (k := 1) rfl (e_372.symm) (by decide) rfl (fun ls hl => ?_)
        refine lv_goto (tgt := 133) hx hb dX12_count_162 (by decide) ?_
        exact ih_336 (x_371, x_369) _ _ _ ⟨(Rg.wk (lo2 := 0) (hi2 := 10) r_373 (by decide)), hHe, hlc, hP, lv_sub hl [0, 1, 2, 3] rfl⟩ (ms_up e_372 r_340 (Rg.c (c := Int32.ofInt 1) (k := 1) rfl) (by decide))
      · refine lv_if_ge (tgt := 156) hx hb dX12_count_149 (by decide) (fun c_363 => ?_) (fun c_363 => ?_)
        · have r_364 : Rg 0 9 x_360 := Rg.le_r c_363 (Rg.c (c := 0) (k := 0) rfl) r_362 (by decide)
          refine lv_iconst (v := 0) hx hb dX12_count_156 (by decide) ?_
          exact hj_367 0 _ _ _ ⟨(Rg.wk (lo2 := 0) (hi2 := 1) (Rg.c (c := 0) (k := 0) rfl) (by decide)), hHe, hlc, hP, lv_sub hl [0, 1, 2, 3] rfl⟩
        · have r_365 : Rg (-1) (-1) x_360 := Rg.lt_l (nle_lt c_363) r_362 (Rg.c (c := 0) (k := 0) rfl) (by decide)
          refine lv_iconst (v := 1) hx hb dX12_count_152 (by decide) ?_
          refine lv_goto (tgt := 157) hx hb dX12_count_153 (by decide) ?_
          exact hj_367 1 _ _ _ ⟨(Rg.wk (lo2 := 0) (hi2 := 1) (Rg.c (c := 1) (k := 1) rfl) (by decide)), hHe, hlc, hP, lv_sub hl [0, 1, 2, 3] rfl⟩
  · refine tc_i 10 c_1 ?_
    have r_12 : Rg 10 10 a := Rg.of c_1 (Rg.c rfl)
    refine lv_tableIn (tgt := 167) hx hb dX12_count_3 (by decide) (by decide) rfl (by decide) ?_
    refine lv_aload_n hx hb dX12_count_167 rfl (lv_at hl 1 rfl) ?_
    refine va_get (D := D) (ci := 10) (v := .int sx_) (C := "WrongHoleModel") (T := TX12) (N := 33) hx hb hts (iq_RX12 _) hown hK hP 0 rfl rfl 21 (by decide) (hT _ qq_5_173) (fun _ h9 => h9) rfl dX12_count_168 ?_
    exact W.iret (v := sx_) hx hb hr (fun t9 ht9 hW9 => ⟨⟨_, rfl, _, rfl⟩, ht9.trans hHe⟩) (fun _ h9 => by rw [hlc] at h9; exact absurd h9 List.not_mem_nil) dX12_count_171
  · refine tc_i 11 c_1 ?_
    have r_13 : Rg 11 11 a := Rg.of c_1 (Rg.c rfl)
    refine lv_tableIn (tgt := 172) hx hb dX12_count_3 (by decide) (by decide) rfl (by decide) ?_
    refine lv_aload_n hx hb dX12_count_172 rfl (lv_at hl 1 rfl) ?_
    refine va_get (D := D) (ci := 10) (v := .int sta) (C := "WrongHoleModel") (T := TX12) (N := 33) hx hb hts (iq_RX12 _) hown hK hP 0 rfl rfl 1 (by decide) (hT _ qq_5_153) (fun _ h9 => h9) rfl dX12_count_173 ?_
    exact W.iret (v := sta) hx hb hr (fun t9 ht9 hW9 => ⟨⟨_, rfl, _, rfl⟩, ht9.trans hHe⟩) (fun _ h9 => by rw [hlc] at h9; exact absurd h9 List.not_mem_nil) dX12_count_176
theorem dX12_image_0 : decode cX12_image 0 = .ok (.iload_n 1, 1) := by decide +kernel
theorem dX12_image_1 : decode cX12_image 1 = .ok (.i2l, 1) := by decide +kernel
theorem dX12_image_2 : decode cX12_image 2 = .ok (.lconst 0, 1) := by decide +kernel
theorem dX12_image_3 : decode cX12_image 3 = .ok (.ldc2_w 533, 3) := by decide +kernel
theorem qq_8_99 : Cond.constantLong "WrongHoleModel" 533 3 ∈ TB := mk_tb (ti_8 (List.mem_of_getElem? (i := 99) rfl)) rfl
theorem dX12_image_6 : decode cX12_image 6 = .ok (.invokestatic 104, 3) := by decide +kernel
theorem dX12_image_9 : decode cX12_image 9 = .ok (.ifCond .ne 5, 3) := by decide +kernel
theorem dX12_image_12 : decode cX12_image 12 = .ok (.iconst (-1), 1) := by decide +kernel
theorem dX12_image_13 : decode cX12_image 13 = .ok (.ireturn, 1) := by decide +kernel
set_option maxHeartbeats 4000000 in
set_option maxRecDepth 100000 in
theorem c_M_image_b (l : Launch) (D : va_G) (cs : Nat → ClassId) (m0 : Nat) (mtp : Nat) (sta : Int32) (sru : Int32) (msg : Nat) (mln : Nat) (mcl : Nat) (mcs : Nat) (mrd : Nat) (snx : Int32) (swr : Int32) (snu : Int32) (ste : Int32) (sma : Int32) (sde : Int32) (sli : Int32) (mop : Nat) (sod : Int32) (mst : Nat) (sto : Int32) (mwd : Nat) (msd : Nat) (sx_ : Int32) (mws : Nat) (sun : Int32) (mfr : Nat) (mqu : Nat) (miw : Nat) (sfi : Int32) (swa : Int32) (sdx : Int64) (mim : Nat) (mix : Nat) (mmd : Nat) (a : Int32) (hbx : Rg 0 3 a → False) : Met l yX12_image (Cond.code yX12_image cX12_image 3 (some .int) :: TB) (RM 1 0 0) (va_Pc [.ref m0, .int a] (PRR D cs [(m0, .inr (10, (.ref mtp :: .int sta :: .int sru :: .ref msg :: .ref mln :: .ref mcl :: .ref mcs :: .ref mrd :: .int snx :: .int swr :: .int snu :: .int ste :: .int sma :: .int sde :: .int sli :: .ref mop :: .int sod :: .ref mst :: .int sto :: .ref mwd :: .ref msd :: .int sx_ :: .ref mws :: .int sun :: .ref mfr :: .ref mqu :: .ref miw :: .int sfi :: .int swa :: .long sdx :: .ref mim :: .ref mix :: .ref mmd :: [])))])) (QP (fun v => ∃ x : Int32, v = .int x)) 0 0 (fun _ => False) := by
  refine MER (y := yX12_image) (cc := cX12_image) (maxL := 3) (ret := (some .int)) (d := 1) (D := D) (cs := cs) (ws := [(m0, .inr (10, (.ref mtp :: .int sta :: .int sru :: .ref msg :: .ref mln :: .ref mcl :: .ref mcs :: .ref mrd :: .int snx :: .int swr :: .int snu :: .int ste :: .int sma :: .int sde :: .int sli :: .ref mop :: .int sod :: .ref mst :: .int sto :: .ref mwd :: .ref msd :: .int sx_ :: .ref mws :: .int sun :: .ref mfr :: .ref mqu :: .ref miw :: .int sfi :: .int swa :: .long sdx :: .ref mim :: .ref mix :: .ref mmd :: [])))]) (av := [.ref m0, .int a]) (Qc := QP (fun v => ∃ x : Int32, v = .int x)) (by decide) (Nat.le_of_ble_eq_true rfl) ?_
  intro p e s m below meth c ls H hHe hx hb hr hml hown hts hlocks hP hK hN hl
  obtain ⟨locs, hlc⟩ : ∃ z : List Loc, z = [] := ⟨_, rfl⟩
  rw [← hlc]
  have hown : s.vm.findClass "WrongHoleModel" = some m.cls := hown
  have hT : ∀ w ∈ TB, w.before ([.ref m0, .int a] : List Value).toArray s = true := fun w h => hts w (List.mem_cons_of_mem _ h)
  have hl : lv_has ls 3 [(0, .ref m0), (1, .int a)] := hl
  have hP : va_P D vwCl [(m0, .inr (10, (.ref mtp :: .int sta :: .int sru :: .ref msg :: .ref mln :: .ref mcl :: .ref mcs :: .ref mrd :: .int snx :: .int swr :: .int snu :: .int ste :: .int sma :: .int sde :: .int sli :: .ref mop :: .int sod :: .ref mst :: .int sto :: .ref mwd :: .ref msd :: .int sx_ :: .ref mws :: .int sun :: .ref mfr :: .ref mqu :: .ref miw :: .int sfi :: .int swa :: .long sdx :: .ref mim :: .ref mix :: .ref mmd :: [])))] H := hP
  refine lv_iload_n hx hb dX12_image_0 rfl (lv_at hl 1 rfl) ?_
  refine lv_i2l (v := Int32.toInt64 a) hx hb dX12_image_1 rfl ?_
  refine lv_topl (fun x_1 e_2 => ?_)
  refine lv_lconst (v := 0) hx hb dX12_image_2 (by decide) ?_
  refine lv_ldc2 (v := 3) hx hb hown (hT _ qq_8_99) dX12_image_3 ?_
  have hPc := va_P.sub (ws' := []) hP [] rfl
  refine cl_P (W.runS (As := [.long x_1, .long 0, .long 3]) (rest := []) ⟨hx, hb, hml, hown, hts⟩ (c_M_in l D cs x_1 0 3) ⟨callB_of 3 hts (gd_C qq_6_97) rfl rfl rfl (hT _ qq_1_9) (hT _ qq_6_95) (by decide +kernel) (rm_R rfl rfl), (hT _ qq_6_96)⟩ (pq_S hPc hK hN) rfl rfl hl.1 rfl (lv_room (Nat.le_of_ble_eq_true rfl)) dX12_image_6 ⟨Nat.le_of_ble_eq_true rfl, Nat.le_of_ble_eq_true rfl⟩) (fun v9 hz_4 => ?_)
  obtain ⟨x_3, rfl, r_5⟩ := hz_4
  refine lv_if_ne (tgt := 14) hx hb dX12_image_9 (by decide) (fun c_6 => ?_) (fun c_6 => ?_)
  · have r_7 : Rg 1 1 x_3 := Rg.ne c_6 r_5.1 (Rg.c (c := 0) (k := 0) rfl) (by decide)
    have r_8 : Rg 0 3 a := in_rg e_2 (r_5.2 c_6) (by decide) (by decide)
    exact (hbx r_8).elim
  · have r_9 : Rg 0 0 x_3 := Rg.eq_l c_6 r_5.1 (Rg.c (c := 0) (k := 0) rfl) (by decide)
    refine lv_iconst (v := (-1)) hx hb dX12_image_12 (by decide) ?_
    exact W.iret (v := (-1)) hx hb hr (fun t9 ht9 hW9 => ⟨⟨_, rfl, _, rfl⟩, ht9.trans hHe⟩) (fun _ h9 => by rw [hlc] at h9; exact absurd h9 List.not_mem_nil) dX12_image_13
theorem dX12_back_0 : decode cX12_back 0 = .ok (.iload_n 1, 1) := by decide +kernel
theorem dX12_back_1 : decode cX12_back 1 = .ok (.i2l, 1) := by decide +kernel
theorem dX12_back_2 : decode cX12_back 2 = .ok (.lconst 0, 1) := by decide +kernel
theorem dX12_back_3 : decode cX12_back 3 = .ok (.ldc2_w 533, 3) := by decide +kernel
theorem dX12_back_6 : decode cX12_back 6 = .ok (.invokestatic 104, 3) := by decide +kernel
theorem dX12_back_9 : decode cX12_back 9 = .ok (.ifCond .eq 12, 3) := by decide +kernel
theorem dX12_back_21 : decode cX12_back 21 = .ok (.iconst (-1), 1) := by decide +kernel
theorem dX12_back_22 : decode cX12_back 22 = .ok (.ireturn, 1) := by decide +kernel
set_option maxHeartbeats 4000000 in
set_option maxRecDepth 100000 in
theorem c_M_back_b (l : Launch) (D : va_G) (cs : Nat → ClassId) (m0 : Nat) (mtp : Nat) (sta : Int32) (sru : Int32) (msg : Nat) (mln : Nat) (mcl : Nat) (mcs : Nat) (mrd : Nat) (snx : Int32) (swr : Int32) (snu : Int32) (ste : Int32) (sma : Int32) (sde : Int32) (sli : Int32) (mop : Nat) (sod : Int32) (mst : Nat) (sto : Int32) (mwd : Nat) (msd : Nat) (sx_ : Int32) (mws : Nat) (sun : Int32) (mfr : Nat) (mqu : Nat) (miw : Nat) (sfi : Int32) (swa : Int32) (sdx : Int64) (mim : Nat) (mix : Nat) (mmd : Nat) (a : Int32) (hbx : Rg 0 3 a → False) : Met l yX12_back (Cond.code yX12_back cX12_back 3 (some .int) :: TB) (RM 1 0 0) (va_Pc [.ref m0, .int a] (PRR D cs [(m0, .inr (10, (.ref mtp :: .int sta :: .int sru :: .ref msg :: .ref mln :: .ref mcl :: .ref mcs :: .ref mrd :: .int snx :: .int swr :: .int snu :: .int ste :: .int sma :: .int sde :: .int sli :: .ref mop :: .int sod :: .ref mst :: .int sto :: .ref mwd :: .ref msd :: .int sx_ :: .ref mws :: .int sun :: .ref mfr :: .ref mqu :: .ref miw :: .int sfi :: .int swa :: .long sdx :: .ref mim :: .ref mix :: .ref mmd :: [])))])) (QP (fun v => ∃ x : Int32, v = .int x)) 0 0 (fun _ => False) := by
  refine MER (y := yX12_back) (cc := cX12_back) (maxL := 3) (ret := (some .int)) (d := 1) (D := D) (cs := cs) (ws := [(m0, .inr (10, (.ref mtp :: .int sta :: .int sru :: .ref msg :: .ref mln :: .ref mcl :: .ref mcs :: .ref mrd :: .int snx :: .int swr :: .int snu :: .int ste :: .int sma :: .int sde :: .int sli :: .ref mop :: .int sod :: .ref mst :: .int sto :: .ref mwd :: .ref msd :: .int sx_ :: .ref mws :: .int sun :: .ref mfr :: .ref mqu :: .ref miw :: .int sfi :: .int swa :: .long sdx :: .ref mim :: .ref mix :: .ref mmd :: [])))]) (av := [.ref m0, .int a]) (Qc := QP (fun v => ∃ x : Int32, v = .int x)) (by decide) (Nat.le_of_ble_eq_true rfl) ?_
  intro p e s m below meth c ls H hHe hx hb hr hml hown hts hlocks hP hK hN hl
  obtain ⟨locs, hlc⟩ : ∃ z : List Loc, z = [] := ⟨_, rfl⟩
  rw [← hlc]
  have hown : s.vm.findClass "WrongHoleModel" = some m.cls := hown
  have hT : ∀ w ∈ TB, w.before ([.ref m0, .int a] : List Value).toArray s = true := fun w h => hts w (List.mem_cons_of_mem _ h)
  have hl : lv_has ls 3 [(0, .ref m0), (1, .int a)] := hl
  have hP : va_P D vwCl [(m0, .inr (10, (.ref mtp :: .int sta :: .int sru :: .ref msg :: .ref mln :: .ref mcl :: .ref mcs :: .ref mrd :: .int snx :: .int swr :: .int snu :: .int ste :: .int sma :: .int sde :: .int sli :: .ref mop :: .int sod :: .ref mst :: .int sto :: .ref mwd :: .ref msd :: .int sx_ :: .ref mws :: .int sun :: .ref mfr :: .ref mqu :: .ref miw :: .int sfi :: .int swa :: .long sdx :: .ref mim :: .ref mix :: .ref mmd :: [])))] H := hP
  refine lv_iload_n hx hb dX12_back_0 rfl (lv_at hl 1 rfl) ?_
  refine lv_i2l (v := Int32.toInt64 a) hx hb dX12_back_1 rfl ?_
  refine lv_topl (fun x_1 e_2 => ?_)
  refine lv_lconst (v := 0) hx hb dX12_back_2 (by decide) ?_
  refine lv_ldc2 (v := 3) hx hb hown (hT _ qq_8_99) dX12_back_3 ?_
  have hPc := va_P.sub (ws' := []) hP [] rfl
  refine cl_P (W.runS (As := [.long x_1, .long 0, .long 3]) (rest := []) ⟨hx, hb, hml, hown, hts⟩ (c_M_in l D cs x_1 0 3) ⟨callB_of 3 hts (gd_C qq_6_97) rfl rfl rfl (hT _ qq_1_9) (hT _ qq_6_95) (by decide +kernel) (rm_R rfl rfl), (hT _ qq_6_96)⟩ (pq_S hPc hK hN) rfl rfl hl.1 rfl (lv_room (Nat.le_of_ble_eq_true rfl)) dX12_back_6 ⟨Nat.le_of_ble_eq_true rfl, Nat.le_of_ble_eq_true rfl⟩) (fun v9 hz_4 => ?_)
  obtain ⟨x_3, rfl, r_5⟩ := hz_4
  refine lv_if_eq (tgt := 21) hx hb dX12_back_9 (by decide) (fun c_6 => ?_) (fun c_6 => ?_)
  · have r_7 : Rg 0 0 x_3 := Rg.eq_l c_6 r_5.1 (Rg.c (c := 0) (k := 0) rfl) (by decide)
    refine lv_iconst (v := (-1)) hx hb dX12_back_21 (by decide) ?_
    exact W.iret (v := (-1)) hx hb hr (fun t9 ht9 hW9 => ⟨⟨_, rfl, _, rfl⟩, ht9.trans hHe⟩) (fun _ h9 => by rw [hlc] at h9; exact absurd h9 List.not_mem_nil) dX12_back_22
  · have r_8 : Rg 1 1 x_3 := Rg.ne c_6 r_5.1 (Rg.c (c := 0) (k := 0) rfl) (by decide)
    have r_9 : Rg 0 3 a := in_rg e_2 (r_5.2 c_6) (by decide) (by decide)
    exact (hbx r_9).elim
set_option maxHeartbeats 4000000 in
set_option maxRecDepth 100000 in
theorem c_M_in_x (l : Launch) (D : va_G) (cs : Nat → ClassId) (y1 : Int64) (y2 : Int64) (y3 : Int64)  : Met l yX12_in (Cond.code yX12_in cX12_in 6 (some .boolean) :: TB) (RM 0 0 0) (va_Pc [.long y1, .long y2, .long y3] (PRR D cs [])) (QP (fun v => ∃ x : Int32, v = .int x ∧ Rg 0 1 x ∧ (¬ x = 0 ↔ Int64.toInt y2 ≤ Int64.toInt y1 ∧ Int64.toInt y1 ≤ Int64.toInt y3))) 0 0 (fun _ => False) := by
  refine MER (y := yX12_in) (cc := cX12_in) (maxL := 6) (ret := (some .boolean)) (d := 0) (D := D) (cs := cs) (ws := []) (av := [.long y1, .long y2, .long y3]) (Qc := QP (fun v => ∃ x : Int32, v = .int x ∧ Rg 0 1 x ∧ (¬ x = 0 ↔ Int64.toInt y2 ≤ Int64.toInt y1 ∧ Int64.toInt y1 ≤ Int64.toInt y3))) (by decide) (Nat.le_of_ble_eq_true rfl) ?_
  intro p e s m below meth c ls H hHe hx hb hr hml hown hts hlocks hP hK hN hl
  obtain ⟨locs, hlc⟩ : ∃ z : List Loc, z = [] := ⟨_, rfl⟩
  rw [← hlc]
  have hown : s.vm.findClass "WrongHoleModel" = some m.cls := hown
  have hT : ∀ w ∈ TB, w.before ([.long y1, .long y2, .long y3] : List Value).toArray s = true := fun w h => hts w (List.mem_cons_of_mem _ h)
  have hl : lv_has ls 6 [(0, .long y1), (2, .long y2), (4, .long y3)] := hl
  have hP : va_P D vwCl [] H := hP
  refine lv_lload_n hx hb dX12_in_0 rfl (lv_at hl 0 rfl) ?_
  refine lv_lload_n hx hb dX12_in_1 rfl (lv_at hl 1 rfl) ?_
  refine W.lcmp hx hb dX12_in_2 ?_
  refine lv_topi (fun x_1 e_2 => ?_)
  have r_3 : Rg (-1) 1 x_1 := Rg.of e_2 (cmp_r _ _)
  refine lv_if_lt (tgt := 17) hx hb dX12_in_3 (by decide) (fun c_4 => ?_) (fun c_4 => ?_)
  · have r_5 : Rg (-1) (-1) x_1 := Rg.lt_l c_4 r_3 (Rg.c (c := 0) (k := 0) rfl) (by decide)
    refine lv_iconst (v := 0) hx hb dX12_in_17 (by decide) ?_
    exact W.zret (v := 0) (ty := .boolean) hx hb hr rfl (fun t9 ht9 hW9 => ⟨⟨_, rfl, _, rfl, ⟨⟨by decide, by decide⟩, fun q9 => absurd rfl q9, fun h9 => absurd h9.1 (by have h8 := lc_lt e_2 c_4; omega)⟩⟩, ht9.trans hHe⟩) (fun _ h9 => by rw [hlc] at h9; exact absurd h9 List.not_mem_nil) dX12_in_18
  · have r_6 : Rg 0 1 x_1 := Rg.le_r (nlt_le c_4) (Rg.c (c := 0) (k := 0) rfl) r_3 (by decide)
    refine lv_lload_n hx hb dX12_in_6 rfl (lv_at hl 0 rfl) ?_
    refine lv_lload hx hb dX12_in_7 (lv_at hl 2 rfl) ?_
    refine W.lcmp hx hb dX12_in_9 ?_
    refine lv_topi (fun x_13 e_14 => ?_)
    have r_15 : Rg (-1) 1 x_13 := Rg.of e_14 (cmp_r _ _)
    refine lv_if_gt (tgt := 17) hx hb dX12_in_10 (by decide) (fun c_16 => ?_) (fun c_16 => ?_)
    · have r_17 : Rg 1 1 x_13 := Rg.lt_r c_16 (Rg.c (c := 0) (k := 0) rfl) r_15 (by decide)
      refine lv_iconst (v := 0) hx hb dX12_in_17 (by decide) ?_
      exact W.zret (v := 0) (ty := .boolean) hx hb hr rfl (fun t9 ht9 hW9 => ⟨⟨_, rfl, _, rfl, ⟨⟨by decide, by decide⟩, fun q9 => absurd rfl q9, fun h9 => absurd h9.2 (by have h8 := lc_gt e_14 c_16; omega)⟩⟩, ht9.trans hHe⟩) (fun _ h9 => by rw [hlc] at h9; exact absurd h9 List.not_mem_nil) dX12_in_18
    · have r_18 : Rg (-1) 0 x_13 := Rg.le_l (nlt_le c_16) r_15 (Rg.c (c := 0) (k := 0) rfl) (by decide)
      refine lv_iconst (v := 1) hx hb dX12_in_13 (by decide) ?_
      refine lv_goto (tgt := 18) hx hb dX12_in_14 (by decide) ?_
      exact W.zret (v := 1) (ty := .boolean) hx hb hr rfl (fun t9 ht9 hW9 => ⟨⟨_, rfl, _, rfl, ⟨⟨by decide, by decide⟩, fun _ => ⟨lc_ge e_2 c_4, lc_le e_14 c_16⟩, fun _ => by decide⟩⟩, ht9.trans hHe⟩) (fun _ h9 => by rw [hlc] at h9; exact absurd h9 List.not_mem_nil) dX12_in_18
theorem dX12_image_14 : decode cX12_image 14 = .ok (.aload_n 0, 1) := by decide +kernel
theorem dX12_image_15 : decode cX12_image 15 = .ok (.getfield 62, 3) := by decide +kernel
theorem qq_5_184 : Cond.fieldLink "WrongHoleModel" 62 "WrongHoleModel" "isMade" "[Z" ∈ TB := mk_tb (ti_5 (List.mem_of_getElem? (i := 184) rfl)) rfl
theorem dX12_image_18 : decode cX12_image 18 = .ok (.iload_n 1, 1) := by decide +kernel
theorem dX12_image_19 : decode cX12_image 19 = .ok (.iconst 1, 1) := by decide +kernel
theorem dX12_image_20 : decode cX12_image 20 = .ok (.bastore, 1) := by decide +kernel
theorem dX12_image_21 : decode cX12_image 21 = .ok (.aload_n 0, 1) := by decide +kernel
theorem dX12_image_22 : decode cX12_image 22 = .ok (.getfield 59, 3) := by decide +kernel
theorem qq_5_183 : Cond.fieldLink "WrongHoleModel" 59 "WrongHoleModel" "imageX" "[I" ∈ TB := mk_tb (ti_5 (List.mem_of_getElem? (i := 183) rfl)) rfl
theorem dX12_image_25 : decode cX12_image 25 = .ok (.iload_n 1, 1) := by decide +kernel
theorem dX12_image_26 : decode cX12_image 26 = .ok (.aload_n 0, 1) := by decide +kernel
theorem dX12_image_27 : decode cX12_image 27 = .ok (.getfield 513, 3) := by decide +kernel
theorem dX12_image_30 : decode cX12_image 30 = .ok (.iastore, 1) := by decide +kernel
theorem dX12_image_31 : decode cX12_image 31 = .ok (.iconst 0, 1) := by decide +kernel
theorem dX12_image_32 : decode cX12_image 32 = .ok (.istore_n 2, 1) := by decide +kernel
theorem dX12_image_33 : decode cX12_image 33 = .ok (.iload_n 2, 1) := by decide +kernel
theorem dX12_image_34 : decode cX12_image 34 = .ok (.sipush 133, 3) := by decide +kernel
theorem dX12_image_37 : decode cX12_image 37 = .ok (.if_icmp .ge 27, 3) := by decide +kernel
theorem dX12_image_64 : decode cX12_image 64 = .ok (.aload_n 0, 1) := by decide +kernel
theorem dX12_image_65 : decode cX12_image 65 = .ok (.getfield 39, 3) := by decide +kernel
theorem dX12_image_68 : decode cX12_image 68 = .ok (.iconst 3, 1) := by decide +kernel
theorem dX12_image_69 : decode cX12_image 69 = .ok (.iaload, 1) := by decide +kernel
theorem dX12_image_70 : decode cX12_image 70 = .ok (.ireturn, 1) := by decide +kernel
theorem dX12_image_40 : decode cX12_image 40 = .ok (.aload_n 0, 1) := by decide +kernel
theorem dX12_image_41 : decode cX12_image 41 = .ok (.getfield 56, 3) := by decide +kernel
theorem qq_5_182 : Cond.fieldLink "WrongHoleModel" 56 "WrongHoleModel" "images" "[I" ∈ TB := mk_tb (ti_5 (List.mem_of_getElem? (i := 182) rfl)) rfl
theorem dX12_image_44 : decode cX12_image 44 = .ok (.sipush 133, 3) := by decide +kernel
theorem dX12_image_47 : decode cX12_image 47 = .ok (.iload_n 1, 1) := by decide +kernel
theorem dX12_image_48 : decode cX12_image 48 = .ok (.imul, 1) := by decide +kernel
theorem dX12_image_49 : decode cX12_image 49 = .ok (.iload_n 2, 1) := by decide +kernel
theorem dX12_image_50 : decode cX12_image 50 = .ok (.iadd, 1) := by decide +kernel
theorem dX12_image_51 : decode cX12_image 51 = .ok (.aload_n 0, 1) := by decide +kernel
theorem dX12_image_52 : decode cX12_image 52 = .ok (.getfield 39, 3) := by decide +kernel
theorem dX12_image_55 : decode cX12_image 55 = .ok (.iload_n 2, 1) := by decide +kernel
theorem dX12_image_56 : decode cX12_image 56 = .ok (.iaload, 1) := by decide +kernel
theorem dX12_image_57 : decode cX12_image 57 = .ok (.iastore, 1) := by decide +kernel
theorem dX12_image_58 : decode cX12_image 58 = .ok (.iinc 2 1, 3) := by decide +kernel
theorem dX12_image_61 : decode cX12_image 61 = .ok (.goto (-28), 3) := by decide +kernel
set_option maxHeartbeats 4000000 in
set_option maxRecDepth 100000 in
theorem c_M_image (l : Launch) (D : va_G) (cs : Nat → ClassId) (X : XX) (sz : Nat) (m0 : Nat) (mtp : Nat) (sta : Int32) (sru : Int32) (msg : Nat) (mln : Nat) (mcl : Nat) (mcs : Nat) (mrd : Nat) (snx : Int32) (swr : Int32) (snu : Int32) (ste : Int32) (sma : Int32) (sde : Int32) (sli : Int32) (mop : Nat) (sod : Int32) (mst : Nat) (sto : Int32) (mwd : Nat) (msd : Nat) (sx_ : Int32) (mws : Nat) (sun : Int32) (mfr : Nat) (mqu : Nat) (miw : Nat) (sfi : Int32) (swa : Int32) (sdx : Int64) (mim : Nat) (mix : Nat) (mmd : Nat) (gsd : Nat → Int32) (gim : Nat → Int32) (gix : Nat → Int32) (gmd : Nat → Int32) (a : Int32) (r_a : Rg 0 3 a) : Met l yX12_image (Cond.code yX12_image cX12_image 3 (some .int) :: TB) (RM 1 0 0) (va_Pc [.ref m0, .int a] (PRE D cs X [(m0, .inr (10, (.ref mtp :: .int sta :: .int sru :: .ref msg :: .ref mln :: .ref mcl :: .ref mcs :: .ref mrd :: .int snx :: .int swr :: .int snu :: .int ste :: .int sma :: .int sde :: .int sli :: .ref mop :: .int sod :: .ref mst :: .int sto :: .ref mwd :: .ref msd :: .int sx_ :: .ref mws :: .int sun :: .ref mfr :: .ref mqu :: .ref miw :: .int sfi :: .int swa :: .long sdx :: .ref mim :: .ref mix :: .ref mmd :: []))), (msd, .inl ((cs 0), 133, .inl gsd)), (mim, .inl ((cs 0), 532, .inl gim)), (mix, .inl ((cs 0), 4, .inl gix)), (mmd, .inl ((cs 3), 4, .inl gmd))] [] sz)) (va_Qi (S := Unit) (fun r _ => True) (fun _ t => ∃ (gim2 : Nat → Int32), ∃ (gix2 : Nat → Int32), ∃ (gmd2 : Nat → Int32), (IMG gsd gim gim2 (cN a) 133) ∧ (gix2 = upd gix (cN a) sx_) ∧ (gmd2 = upd gmd (cN a) 1) ∧ va_P D vwCl [(m0, .inr (10, (.ref mtp :: .int sta :: .int sru :: .ref msg :: .ref mln :: .ref mcl :: .ref mcs :: .ref mrd :: .int snx :: .int swr :: .int snu :: .int ste :: .int sma :: .int sde :: .int sli :: .ref mop :: .int sod :: .ref mst :: .int sto :: .ref mwd :: .ref msd :: .int sx_ :: .ref mws :: .int sun :: .ref mfr :: .ref mqu :: .ref miw :: .int sfi :: .int swa :: .long sdx :: .ref mim :: .ref mix :: .ref mmd :: []))), (msd, .inl ((cs 0), 133, .inl gsd)), (mim, .inl ((cs 0), 532, .inl gim2)), (mix, .inl ((cs 0), 4, .inl gix2)), (mmd, .inl ((cs 3), 4, .inl gmd2))] t.heap ∧ va_D (va_A [(m0, .inr (10, (.ref mtp :: .int sta :: .int sru :: .ref msg :: .ref mln :: .ref mcl :: .ref mcs :: .ref mrd :: .int snx :: .int swr :: .int snu :: .int ste :: .int sma :: .int sde :: .int sli :: .ref mop :: .int sod :: .ref mst :: .int sto :: .ref mwd :: .ref msd :: .int sx_ :: .ref mws :: .int sun :: .ref mfr :: .ref mqu :: .ref miw :: .int sfi :: .int swa :: .long sdx :: .ref mim :: .ref mix :: .ref mmd :: []))), (msd, .inl ((cs 0), 133, .inl gsd)), (mim, .inl ((cs 0), 532, .inl gim)), (mix, .inl ((cs 0), 4, .inl gix)), (mmd, .inl ((cs 3), 4, .inl gmd))] sz) [(m0, .inr (10, (.ref mtp :: .int sta :: .int sru :: .ref msg :: .ref mln :: .ref mcl :: .ref mcs :: .ref mrd :: .int snx :: .int swr :: .int snu :: .int ste :: .int sma :: .int sde :: .int sli :: .ref mop :: .int sod :: .ref mst :: .int sto :: .ref mwd :: .ref msd :: .int sx_ :: .ref mws :: .int sun :: .ref mfr :: .ref mqu :: .ref miw :: .int sfi :: .int swa :: .long sdx :: .ref mim :: .ref mix :: .ref mmd :: []))), (msd, .inl ((cs 0), 133, .inl gsd)), (mim, .inl ((cs 0), 532, .inl gim2)), (mix, .inl ((cs 0), 4, .inl gix2)), (mmd, .inl ((cs 3), 4, .inl gmd2))]) (va_A [(m0, .inr (10, (.ref mtp :: .int sta :: .int sru :: .ref msg :: .ref mln :: .ref mcl :: .ref mcs :: .ref mrd :: .int snx :: .int swr :: .int snu :: .int ste :: .int sma :: .int sde :: .int sli :: .ref mop :: .int sod :: .ref mst :: .int sto :: .ref mwd :: .ref msd :: .int sx_ :: .ref mws :: .int sun :: .ref mfr :: .ref mqu :: .ref miw :: .int sfi :: .int swa :: .long sdx :: .ref mim :: .ref mix :: .ref mmd :: []))), (msd, .inl ((cs 0), 133, .inl gsd)), (mim, .inl ((cs 0), 532, .inl gim)), (mix, .inl ((cs 0), 4, .inl gix)), (mmd, .inl ((cs 3), 4, .inl gmd))] sz)) 0 0 (va_A [(m0, .inr (10, (.ref mtp :: .int sta :: .int sru :: .ref msg :: .ref mln :: .ref mcl :: .ref mcs :: .ref mrd :: .int snx :: .int swr :: .int snu :: .int ste :: .int sma :: .int sde :: .int sli :: .ref mop :: .int sod :: .ref mst :: .int sto :: .ref mwd :: .ref msd :: .int sx_ :: .ref mws :: .int sun :: .ref mfr :: .ref mqu :: .ref miw :: .int sfi :: .int swa :: .long sdx :: .ref mim :: .ref mix :: .ref mmd :: []))), (msd, .inl ((cs 0), 133, .inl gsd)), (mim, .inl ((cs 0), 532, .inl gim)), (mix, .inl ((cs 0), 4, .inl gix)), (mmd, .inl ((cs 3), 4, .inl gmd))] sz) := by
  refine MET (y := yX12_image) (cc := cX12_image) (maxL := 3) (ret := (some .int)) (d := 1) (mc := 0) (ms := 0) (D := D) (cs := cs) (X := X) (ws := [(m0, .inr (10, (.ref mtp :: .int sta :: .int sru :: .ref msg :: .ref mln :: .ref mcl :: .ref mcs :: .ref mrd :: .int snx :: .int swr :: .int snu :: .int ste :: .int sma :: .int sde :: .int sli :: .ref mop :: .int sod :: .ref mst :: .int sto :: .ref mwd :: .ref msd :: .int sx_ :: .ref mws :: .int sun :: .ref mfr :: .ref mqu :: .ref miw :: .int sfi :: .int swa :: .long sdx :: .ref mim :: .ref mix :: .ref mmd :: []))), (msd, .inl ((cs 0), 133, .inl gsd)), (mim, .inl ((cs 0), 532, .inl gim)), (mix, .inl ((cs 0), 4, .inl gix)), (mmd, .inl ((cs 3), 4, .inl gmd))]) (wo := []) (sz := sz) (av := [.ref m0, .int a]) (Qc := fun A => va_Qi (S := Unit) (fun r _ => True) (fun _ t => ∃ (gim2 : Nat → Int32), ∃ (gix2 : Nat → Int32), ∃ (gmd2 : Nat → Int32), (IMG gsd gim gim2 (cN a) 133) ∧ (gix2 = upd gix (cN a) sx_) ∧ (gmd2 = upd gmd (cN a) 1) ∧ va_P D vwCl [(m0, .inr (10, (.ref mtp :: .int sta :: .int sru :: .ref msg :: .ref mln :: .ref mcl :: .ref mcs :: .ref mrd :: .int snx :: .int swr :: .int snu :: .int ste :: .int sma :: .int sde :: .int sli :: .ref mop :: .int sod :: .ref mst :: .int sto :: .ref mwd :: .ref msd :: .int sx_ :: .ref mws :: .int sun :: .ref mfr :: .ref mqu :: .ref miw :: .int sfi :: .int swa :: .long sdx :: .ref mim :: .ref mix :: .ref mmd :: []))), (msd, .inl ((cs 0), 133, .inl gsd)), (mim, .inl ((cs 0), 532, .inl gim2)), (mix, .inl ((cs 0), 4, .inl gix2)), (mmd, .inl ((cs 3), 4, .inl gmd2))] t.heap ∧ va_D A [(m0, .inr (10, (.ref mtp :: .int sta :: .int sru :: .ref msg :: .ref mln :: .ref mcl :: .ref mcs :: .ref mrd :: .int snx :: .int swr :: .int snu :: .int ste :: .int sma :: .int sde :: .int sli :: .ref mop :: .int sod :: .ref mst :: .int sto :: .ref mwd :: .ref msd :: .int sx_ :: .ref mws :: .int sun :: .ref mfr :: .ref mqu :: .ref miw :: .int sfi :: .int swa :: .long sdx :: .ref mim :: .ref mix :: .ref mmd :: []))), (msd, .inl ((cs 0), 133, .inl gsd)), (mim, .inl ((cs 0), 532, .inl gim2)), (mix, .inl ((cs 0), 4, .inl gix2)), (mmd, .inl ((cs 3), 4, .inl gmd2))]) A) (by decide) (Nat.le_of_ble_eq_true rfl) ?_
  intro p e s m below meth c ls A H hHe hx hb hr hml hown hts hlocks hnm hP hK hD hA hS hN hR hX hXs hl
  have hD : va_D A [(m0, .inr (10, (.ref mtp :: .int sta :: .int sru :: .ref msg :: .ref mln :: .ref mcl :: .ref mcs :: .ref mrd :: .int snx :: .int swr :: .int snu :: .int ste :: .int sma :: .int sde :: .int sli :: .ref mop :: .int sod :: .ref mst :: .int sto :: .ref mwd :: .ref msd :: .int sx_ :: .ref mws :: .int sun :: .ref mfr :: .ref mqu :: .ref miw :: .int sfi :: .int swa :: .long sdx :: .ref mim :: .ref mix :: .ref mmd :: []))), (msd, .inl ((cs 0), 133, .inl gsd)), (mim, .inl ((cs 0), 532, .inl gim)), (mix, .inl ((cs 0), 4, .inl gix)), (mmd, .inl ((cs 3), 4, .inl gmd))] := hD
  obtain ⟨locs, hlc⟩ : ∃ z : List Loc, z = [] := ⟨_, rfl⟩
  rw [← hlc] at hS ⊢
  have hown : s.vm.findClass "WrongHoleModel" = some m.cls := hown
  have hT : ∀ w ∈ TB, w.before ([.ref m0, .int a] : List Value).toArray s = true := fun w h => hts w (List.mem_cons_of_mem _ h)
  have hl : lv_has ls 3 [(0, .ref m0), (1, .int a)] := hl
  have hP : va_P D vwCl [(m0, .inr (10, (.ref mtp :: .int sta :: .int sru :: .ref msg :: .ref mln :: .ref mcl :: .ref mcs :: .ref mrd :: .int snx :: .int swr :: .int snu :: .int ste :: .int sma :: .int sde :: .int sli :: .ref mop :: .int sod :: .ref mst :: .int sto :: .ref mwd :: .ref msd :: .int sx_ :: .ref mws :: .int sun :: .ref mfr :: .ref mqu :: .ref miw :: .int sfi :: .int swa :: .long sdx :: .ref mim :: .ref mix :: .ref mmd :: []))), (msd, .inl ((cs 0), 133, .inl gsd)), (mim, .inl ((cs 0), 532, .inl gim)), (mix, .inl ((cs 0), 4, .inl gix)), (mmd, .inl ((cs 3), 4, .inl gmd))] H := hP
  refine lv_iload_n hx hb dX12_image_0 rfl (lv_at hl 1 rfl) ?_
  refine lv_i2l (v := Int32.toInt64 a) hx hb dX12_image_1 rfl ?_
  refine lv_topl (fun x_1 e_2 => ?_)
  refine lv_lconst (v := 0) hx hb dX12_image_2 (by decide) ?_
  refine lv_ldc2 (v := 3) hx hb hown (hT _ qq_8_99) dX12_image_3 ?_
  have hPc := va_P.sub (ws' := []) hP [] rfl
  refine cl_P (W.runS (As := [.long x_1, .long 0, .long 3]) (rest := []) ⟨hx, hb, hml, hown, hts⟩ (c_M_in_x l D cs x_1 0 3) ⟨callB_of 3 hts (gd_C qq_6_97) rfl rfl rfl (hT _ qq_1_9) (hT _ qq_6_95) (by decide +kernel) (rm_R rfl rfl), (hT _ qq_6_96)⟩ (pq_S hPc hK hN) rfl rfl hl.1 rfl (lv_room (Nat.le_of_ble_eq_true rfl)) dX12_image_6 ⟨Nat.le_of_ble_eq_true rfl, Nat.le_of_ble_eq_true rfl⟩) (fun v9 hz_4 => ?_)
  obtain ⟨x_3, rfl, r_5⟩ := hz_4
  refine lv_if_ne (tgt := 14) hx hb dX12_image_9 (by decide) (fun c_6 => ?_) (fun c_6 => False.elim ((r_5.2.mpr (in_yes e_2 r_a rfl rfl)) c_6))
  refine lv_aload_n hx hb dX12_image_14 rfl (lv_at hl 0 rfl) ?_
  refine va_get (D := D) (ci := 10) (v := .ref mmd) (C := "WrongHoleModel") (T := TX12) (N := 33) hx hb hts (iq_RX12 _) hown hK hP 0 rfl rfl 32 (by decide) (hT _ qq_5_184) (fun _ h9 => h9) rfl dX12_image_15 ?_
  refine lv_iload_n hx hb dX12_image_18 rfl (lv_at hl 1 rfl) ?_
  refine lv_iconst (v := 1) hx hb dX12_image_19 (by decide) ?_
  have hi_7 : vp_in a 4 := Rg.in r_a (by decide)
  refine va_zast hx hb hK hP hD hS 4 3 rfl rfl hi_7 dX12_image_20 (fun H locs hP hD hS => ?_)
  obtain ⟨g_8, rb_9, hP, hD⟩ : ∃ g_8 : Nat → Int32, (g_8 = upd gmd (cN a) 1) ∧ va_P D vwCl [(m0, .inr (10, (.ref mtp :: .int sta :: .int sru :: .ref msg :: .ref mln :: .ref mcl :: .ref mcs :: .ref mrd :: .int snx :: .int swr :: .int snu :: .int ste :: .int sma :: .int sde :: .int sli :: .ref mop :: .int sod :: .ref mst :: .int sto :: .ref mwd :: .ref msd :: .int sx_ :: .ref mws :: .int sun :: .ref mfr :: .ref mqu :: .ref miw :: .int sfi :: .int swa :: .long sdx :: .ref mim :: .ref mix :: .ref mmd :: []))), (msd, .inl ((cs 0), 133, .inl gsd)), (mim, .inl ((cs 0), 532, .inl gim)), (mix, .inl ((cs 0), 4, .inl gix)), (mmd, .inl ((cs 3), 4, .inl g_8))] H ∧ va_D A [(m0, .inr (10, (.ref mtp :: .int sta :: .int sru :: .ref msg :: .ref mln :: .ref mcl :: .ref mcs :: .ref mrd :: .int snx :: .int swr :: .int snu :: .int ste :: .int sma :: .int sde :: .int sli :: .ref mop :: .int sod :: .ref mst :: .int sto :: .ref mwd :: .ref msd :: .int sx_ :: .ref mws :: .int sun :: .ref mfr :: .ref mqu :: .ref miw :: .int sfi :: .int swa :: .long sdx :: .ref mim :: .ref mix :: .ref mmd :: []))), (msd, .inl ((cs 0), 133, .inl gsd)), (mim, .inl ((cs 0), 532, .inl gim)), (mix, .inl ((cs 0), 4, .inl gix)), (mmd, .inl ((cs 3), 4, .inl g_8))] := ⟨_, rfl, hP, hD⟩
  refine lv_aload_n hx hb dX12_image_21 rfl (lv_at hl 0 rfl) ?_
  refine va_get (D := D) (ci := 10) (v := .ref mix) (C := "WrongHoleModel") (T := TX12) (N := 33) hx hb hts (iq_RX12 _) hown hK hP 0 rfl rfl 31 (by decide) (hT _ qq_5_183) (fun _ h9 => h9) rfl dX12_image_22 ?_
  refine lv_iload_n hx hb dX12_image_25 rfl (lv_at hl 1 rfl) ?_
  refine lv_aload_n hx hb dX12_image_26 rfl (lv_at hl 0 rfl) ?_
  refine va_get (D := D) (ci := 10) (v := .int sx_) (C := "WrongHoleModel") (T := TX12) (N := 33) hx hb hts (iq_RX12 _) hown hK hP 0 rfl rfl 21 (by decide) (hT _ qq_5_173) (fun _ h9 => h9) rfl dX12_image_27 ?_
  have hi_10 : vp_in a 4 := Rg.in r_a (by decide)
  refine va_iast hx hb hK hP hD hS 3 0 rfl rfl hi_10 dX12_image_30 (fun H locs hP hD hS => ?_)
  obtain ⟨g_11, rb_12, hP, hD⟩ : ∃ g_11 : Nat → Int32, (g_11 = upd gix (cN a) sx_) ∧ va_P D vwCl [(m0, .inr (10, (.ref mtp :: .int sta :: .int sru :: .ref msg :: .ref mln :: .ref mcl :: .ref mcs :: .ref mrd :: .int snx :: .int swr :: .int snu :: .int ste :: .int sma :: .int sde :: .int sli :: .ref mop :: .int sod :: .ref mst :: .int sto :: .ref mwd :: .ref msd :: .int sx_ :: .ref mws :: .int sun :: .ref mfr :: .ref mqu :: .ref miw :: .int sfi :: .int swa :: .long sdx :: .ref mim :: .ref mix :: .ref mmd :: []))), (msd, .inl ((cs 0), 133, .inl gsd)), (mim, .inl ((cs 0), 532, .inl gim)), (mix, .inl ((cs 0), 4, .inl g_11)), (mmd, .inl ((cs 3), 4, .inl g_8))] H ∧ va_D A [(m0, .inr (10, (.ref mtp :: .int sta :: .int sru :: .ref msg :: .ref mln :: .ref mcl :: .ref mcs :: .ref mrd :: .int snx :: .int swr :: .int snu :: .int ste :: .int sma :: .int sde :: .int sli :: .ref mop :: .int sod :: .ref mst :: .int sto :: .ref mwd :: .ref msd :: .int sx_ :: .ref mws :: .int sun :: .ref mfr :: .ref mqu :: .ref miw :: .int sfi :: .int swa :: .long sdx :: .ref mim :: .ref mix :: .ref mmd :: []))), (msd, .inl ((cs 0), 133, .inl gsd)), (mim, .inl ((cs 0), 532, .inl gim)), (mix, .inl ((cs 0), 4, .inl g_11)), (mmd, .inl ((cs 3), 4, .inl g_8))] := ⟨_, rfl, hP, hD⟩
  refine lv_iconst (v := 0) hx hb dX12_image_31 (by decide) ?_
  refine lv_istore_n (lv' := [(2, .int 0), (0, .ref m0), (1, .int a)]) hx hb dX12_image_32 rfl hl (by decide) rfl (fun ls hl => ?_)
  refine w_wh (σ := (Int32) × (Nat → Int32)) (fun x9 H locs ls => match x9 with | (v_24, g_25) => Rg 0 133 v_24 ∧ (IMG gsd gim g_25 (cN a) (cN v_24)) ∧ va_P D vwCl [(m0, .inr (10, (.ref mtp :: .int sta :: .int sru :: .ref msg :: .ref mln :: .ref mcl :: .ref mcs :: .ref mrd :: .int snx :: .int swr :: .int snu :: .int ste :: .int sma :: .int sde :: .int sli :: .ref mop :: .int sod :: .ref mst :: .int sto :: .ref mwd :: .ref msd :: .int sx_ :: .ref mws :: .int sun :: .ref mfr :: .ref mqu :: .ref miw :: .int sfi :: .int swa :: .long sdx :: .ref mim :: .ref mix :: .ref mmd :: []))), (msd, .inl ((cs 0), 133, .inl gsd)), (mim, .inl ((cs 0), 532, .inl g_25)), (mix, .inl ((cs 0), 4, .inl g_11)), (mmd, .inl ((cs 3), 4, .inl g_8))] H ∧ va_D A [(m0, .inr (10, (.ref mtp :: .int sta :: .int sru :: .ref msg :: .ref mln :: .ref mcl :: .ref mcs :: .ref mrd :: .int snx :: .int swr :: .int snu :: .int ste :: .int sma :: .int sde :: .int sli :: .ref mop :: .int sod :: .ref mst :: .int sto :: .ref mwd :: .ref msd :: .int sx_ :: .ref mws :: .int sun :: .ref mfr :: .ref mqu :: .ref miw :: .int sfi :: .int swa :: .long sdx :: .ref mim :: .ref mix :: .ref mmd :: []))), (msd, .inl ((cs 0), 133, .inl gsd)), (mim, .inl ((cs 0), 532, .inl g_25)), (mix, .inl ((cs 0), 4, .inl g_11)), (mmd, .inl ((cs 3), 4, .inl g_8))] ∧ va_S A s.heap H locs ∧ lv_has ls 3 [(2, .int v_24), (0, .ref m0), (1, .int a)]) (fun x9 => match x9 with | (v_24, g_25) => (133 - Int32.toInt v_24).toNat) 33 ?_ (0, gim) H locs ls ⟨(Rg.wk (lo2 := 0) (hi2 := 133) (Rg.c (c := 0) (k := 0) rfl) (by decide)), img_0, hP, hD, hS, lv_sub hl [0, 1, 2] rfl⟩
  rintro ⟨v_24, g_25⟩ H locs ls ⟨r_151, iv_152, hP, hD, hS, hl⟩ ih_150
  refine lv_iload_n hx hb dX12_image_33 rfl (lv_at hl 0 rfl) ?_
  refine lv_sipush (v := 133) hx hb dX12_image_34 (by decide) ?_
  refine lv_icmp_ge (tgt := 64) hx hb dX12_image_37 (by decide) (fun c_153 => ?_) (fun c_153 => ?_)
  · have r_154 : Rg 133 133 v_24 := Rg.le_r c_153 (Rg.c (c := 133) (k := 133) rfl) r_151 (by decide)
    refine lv_aload_n hx hb dX12_image_64 rfl (lv_at hl 1 rfl) ?_
    refine va_get (D := D) (ci := 10) (v := .ref msd) (C := "WrongHoleModel") (T := TX12) (N := 33) hx hb hts (iq_RX12 _) hown hK hP 0 rfl rfl 20 (by decide) (hT _ qq_5_172) (fun _ h9 => h9) rfl dX12_image_65 ?_
    refine lv_iconst (v := 3) hx hb dX12_image_68 (by decide) ?_
    have hi_169 : vp_in 3 133 := vi_c rfl
    refine va_iald hx hb hK hP 1 0 rfl rfl hi_169 dX12_image_69 ?_
    refine lv_topi (fun x_170 e_171 => ?_)
    refine W.widen (k := 0) (n := 0) (Nat.le_of_ble_eq_true rfl) (Nat.le_of_ble_eq_true rfl) ?_
    have hP9 := hP.sub (ws' := [(m0, .inr (10, (.ref mtp :: .int sta :: .int sru :: .ref msg :: .ref mln :: .ref mcl :: .ref mcs :: .ref mrd :: .int snx :: .int swr :: .int snu :: .int ste :: .int sma :: .int sde :: .int sli :: .ref mop :: .int sod :: .ref mst :: .int sto :: .ref mwd :: .ref msd :: .int sx_ :: .ref mws :: .int sun :: .ref mfr :: .ref mqu :: .ref miw :: .int sfi :: .int swa :: .long sdx :: .ref mim :: .ref mix :: .ref mmd :: []))), (msd, .inl ((cs 0), 133, .inl gsd)), (mim, .inl ((cs 0), 532, .inl g_25)), (mix, .inl ((cs 0), 4, .inl g_11)), (mmd, .inl ((cs 3), 4, .inl g_8))]) [0, 1, 2, 3, 4] rfl
    have hD9 := hD.sub (ws' := [(m0, .inr (10, (.ref mtp :: .int sta :: .int sru :: .ref msg :: .ref mln :: .ref mcl :: .ref mcs :: .ref mrd :: .int snx :: .int swr :: .int snu :: .int ste :: .int sma :: .int sde :: .int sli :: .ref mop :: .int sod :: .ref mst :: .int sto :: .ref mwd :: .ref msd :: .int sx_ :: .ref mws :: .int sun :: .ref mfr :: .ref mqu :: .ref miw :: .int sfi :: .int swa :: .long sdx :: .ref mim :: .ref mix :: .ref mmd :: []))), (msd, .inl ((cs 0), 133, .inl gsd)), (mim, .inl ((cs 0), 532, .inl g_25)), (mix, .inl ((cs 0), 4, .inl g_11)), (mmd, .inl ((cs 3), 4, .inl g_8))]) [0, 1, 2, 3, 4] (by decide) rfl
    exact W.iret (v := x_170) hx hb hr (fun t9 ht9 hW9 => ⟨⟨_, (), rfl, trivial, ⟨g_25, g_11, g_8, (by have h9 := iv_152; rw [show cN v_24 = 133 from by have h9 := le_cN c_153 (Rg.c (c := 133) (k := 133) rfl) r_154 (by decide); have h8 : cN 133 = 133 := rfl; have h7 := cN_le (n := 133) (Rg.wk (lo2 := 0) (hi2 := 133) r_154 (by decide)) (by decide); omega] at h9; exact h9), rb_12, rb_9, by rw [ht9]; exact hP9, hD9⟩⟩, hS.F ht9⟩) hS.2.2 dX12_image_70
  · have r_155 : Rg 0 132 v_24 := Rg.lt_l (nle_lt c_153) r_151 (Rg.c (c := 133) (k := 133) rfl) (by decide)
    refine lv_aload_n hx hb dX12_image_40 rfl (lv_at hl 1 rfl) ?_
    refine va_get (D := D) (ci := 10) (v := .ref mim) (C := "WrongHoleModel") (T := TX12) (N := 33) hx hb hts (iq_RX12 _) hown hK hP 0 rfl rfl 30 (by decide) (hT _ qq_5_182) (fun _ h9 => h9) rfl dX12_image_41 ?_
    refine lv_sipush (v := 133) hx hb dX12_image_44 (by decide) ?_
    refine lv_iload_n hx hb dX12_image_47 rfl (lv_at hl 2 rfl) ?_
    refine lv_imul hx hb dX12_image_48 ?_
    refine lv_topi (fun x_172 e_173 => ?_)
    have r_174 : Rg 0 399 x_172 := Rg.mul (ha := 133) (hb := 3) e_173 (Rg.wk (lo2 := 0) (hi2 := 133) (Rg.c (c := 133) (k := 133) rfl) (by decide)) r_a (by decide)
    refine lv_iload_n hx hb dX12_image_49 rfl (lv_at hl 0 rfl) ?_
    refine lv_iadd hx hb dX12_image_50 ?_
    refine lv_topi (fun x_175 e_176 => ?_)
    have r_177 : Rg 0 531 x_175 := Rg.add e_176 r_174 r_155 (by decide)
    refine lv_aload_n hx hb dX12_image_51 rfl (lv_at hl 1 rfl) ?_
    refine va_get (D := D) (ci := 10) (v := .ref msd) (C := "WrongHoleModel") (T := TX12) (N := 33) hx hb hts (iq_RX12 _) hown hK hP 0 rfl rfl 20 (by decide) (hT _ qq_5_172) (fun _ h9 => h9) rfl dX12_image_52 ?_
    refine lv_iload_n hx hb dX12_image_55 rfl (lv_at hl 0 rfl) ?_
    have hi_178 : vp_in v_24 133 := Rg.in r_155 (by decide)
    refine va_iald hx hb hK hP 1 0 rfl rfl hi_178 dX12_image_56 ?_
    refine lv_topi (fun x_179 e_180 => ?_)
    have hi_181 : vp_in x_175 532 := Rg.in r_177 (by decide)
    refine va_iast hx hb hK hP hD hS 2 0 rfl rfl hi_181 dX12_image_57 (fun H locs hP hD hS => ?_)
    obtain ⟨g_182, rb_183, hP, hD⟩ : ∃ g_182 : Nat → Int32, (IMG gsd gim g_182 (cN a) (cN v_24 + 1)) ∧ va_P D vwCl [(m0, .inr (10, (.ref mtp :: .int sta :: .int sru :: .ref msg :: .ref mln :: .ref mcl :: .ref mcs :: .ref mrd :: .int snx :: .int swr :: .int snu :: .int ste :: .int sma :: .int sde :: .int sli :: .ref mop :: .int sod :: .ref mst :: .int sto :: .ref mwd :: .ref msd :: .int sx_ :: .ref mws :: .int sun :: .ref mfr :: .ref mqu :: .ref miw :: .int sfi :: .int swa :: .long sdx :: .ref mim :: .ref mix :: .ref mmd :: []))), (msd, .inl ((cs 0), 133, .inl gsd)), (mim, .inl ((cs 0), 532, .inl g_182)), (mix, .inl ((cs 0), 4, .inl g_11)), (mmd, .inl ((cs 3), 4, .inl g_8))] H ∧ va_D A [(m0, .inr (10, (.ref mtp :: .int sta :: .int sru :: .ref msg :: .ref mln :: .ref mcl :: .ref mcs :: .ref mrd :: .int snx :: .int swr :: .int snu :: .int ste :: .int sma :: .int sde :: .int sli :: .ref mop :: .int sod :: .ref mst :: .int sto :: .ref mwd :: .ref msd :: .int sx_ :: .ref mws :: .int sun :: .ref mfr :: .ref mqu :: .ref miw :: .int sfi :: .int swa :: .long sdx :: .ref mim :: .ref mix :: .ref mmd :: []))), (msd, .inl ((cs 0), 133, .inl gsd)), (mim, .inl ((cs 0), 532, .inl g_182)), (mix, .inl ((cs 0), 4, .inl g_11)), (mmd, .inl ((cs 3), 4, .inl g_8))] := ⟨_, img_st iv_152 (cN_lt (n := 4) r_a (by decide)) (cN_lt (n := 133) r_155 (by decide)) (ixk e_173 e_176 r_a r_155 (by decide)) e_180, hP, hD⟩
    obtain ⟨x_184, e_185⟩ : ∃ z : Int32, z = v_24 + Int32.ofInt 1 := ⟨_, rfl⟩
    have r_186 : Rg 1 133 x_184 := Rg.add e_185 r_155 (Rg.c (c := Int32.ofInt 1) (k := 1) rfl) (by decide)
    refine lv_iinc (v := x_184) (lv' := [(2, .int x_184), (0, .ref m0), (1, .int a)]) hx hb dX12_image_58 hl (k := 0) rfl (e_185.symm) (by decide) rfl (fun ls hl => ?_)
    refine lv_goto (tgt := 33) hx hb dX12_image_61 (by decide) ?_
    exact ih_150 (x_184, g_182) _ _ _ ⟨(Rg.wk (lo2 := 0) (hi2 := 133) r_186 (by decide)), (by rw [(cN_add (k := 1) e_185 r_155 (Rg.c (c := Int32.ofInt 1) (k := 1) rfl) (by decide))]; exact rb_183), hP, hD, hS, lv_sub hl [0, 1, 2] rfl⟩ (ms_up e_185 r_155 (Rg.c (c := Int32.ofInt 1) (k := 1) rfl) (by decide))
theorem dX12_back_12 : decode cX12_back 12 = .ok (.aload_n 0, 1) := by decide +kernel
theorem dX12_back_13 : decode cX12_back 13 = .ok (.getfield 62, 3) := by decide +kernel
theorem dX12_back_16 : decode cX12_back 16 = .ok (.iload_n 1, 1) := by decide +kernel
theorem dX12_back_17 : decode cX12_back 17 = .ok (.baload, 1) := by decide +kernel
theorem dX12_back_18 : decode cX12_back 18 = .ok (.ifCond .ne 5, 3) := by decide +kernel
theorem dX12_back_23 : decode cX12_back 23 = .ok (.aload_n 0, 1) := by decide +kernel
theorem dX12_back_24 : decode cX12_back 24 = .ok (.aload_n 0, 1) := by decide +kernel
theorem dX12_back_25 : decode cX12_back 25 = .ok (.getfield 59, 3) := by decide +kernel
theorem dX12_back_28 : decode cX12_back 28 = .ok (.iload_n 1, 1) := by decide +kernel
theorem dX12_back_29 : decode cX12_back 29 = .ok (.iaload, 1) := by decide +kernel
theorem dX12_back_30 : decode cX12_back 30 = .ok (.putfield 513, 3) := by decide +kernel
theorem dX12_back_33 : decode cX12_back 33 = .ok (.aload_n 0, 1) := by decide +kernel
theorem dX12_back_34 : decode cX12_back 34 = .ok (.iconst 0, 1) := by decide +kernel
theorem dX12_back_35 : decode cX12_back 35 = .ok (.putfield 301, 3) := by decide +kernel
theorem dX12_back_38 : decode cX12_back 38 = .ok (.iconst 0, 1) := by decide +kernel
theorem dX12_back_39 : decode cX12_back 39 = .ok (.istore_n 2, 1) := by decide +kernel
theorem dX12_back_40 : decode cX12_back 40 = .ok (.iload_n 2, 1) := by decide +kernel
theorem dX12_back_41 : decode cX12_back 41 = .ok (.sipush 133, 3) := by decide +kernel
theorem dX12_back_44 : decode cX12_back 44 = .ok (.if_icmp .ge 27, 3) := by decide +kernel
theorem dX12_back_71 : decode cX12_back 71 = .ok (.aload_n 0, 1) := by decide +kernel
theorem dX12_back_72 : decode cX12_back 72 = .ok (.getfield 39, 3) := by decide +kernel
theorem dX12_back_75 : decode cX12_back 75 = .ok (.iconst 3, 1) := by decide +kernel
theorem dX12_back_76 : decode cX12_back 76 = .ok (.iaload, 1) := by decide +kernel
theorem dX12_back_77 : decode cX12_back 77 = .ok (.ireturn, 1) := by decide +kernel
theorem dX12_back_47 : decode cX12_back 47 = .ok (.aload_n 0, 1) := by decide +kernel
theorem dX12_back_48 : decode cX12_back 48 = .ok (.getfield 39, 3) := by decide +kernel
theorem dX12_back_51 : decode cX12_back 51 = .ok (.iload_n 2, 1) := by decide +kernel
theorem dX12_back_52 : decode cX12_back 52 = .ok (.aload_n 0, 1) := by decide +kernel
theorem dX12_back_53 : decode cX12_back 53 = .ok (.getfield 56, 3) := by decide +kernel
theorem dX12_back_56 : decode cX12_back 56 = .ok (.sipush 133, 3) := by decide +kernel
theorem dX12_back_59 : decode cX12_back 59 = .ok (.iload_n 1, 1) := by decide +kernel
theorem dX12_back_60 : decode cX12_back 60 = .ok (.imul, 1) := by decide +kernel
theorem dX12_back_61 : decode cX12_back 61 = .ok (.iload_n 2, 1) := by decide +kernel
theorem dX12_back_62 : decode cX12_back 62 = .ok (.iadd, 1) := by decide +kernel
theorem dX12_back_63 : decode cX12_back 63 = .ok (.iaload, 1) := by decide +kernel
theorem dX12_back_64 : decode cX12_back 64 = .ok (.iastore, 1) := by decide +kernel
theorem dX12_back_65 : decode cX12_back 65 = .ok (.iinc 2 1, 3) := by decide +kernel
theorem dX12_back_68 : decode cX12_back 68 = .ok (.goto (-28), 3) := by decide +kernel
set_option maxHeartbeats 4000000 in
set_option maxRecDepth 100000 in
theorem c_M_back (l : Launch) (D : va_G) (cs : Nat → ClassId) (X : XX) (sz : Nat) (m0 : Nat) (mtp : Nat) (sta : Int32) (sru : Int32) (msg : Nat) (mln : Nat) (mcl : Nat) (mcs : Nat) (mrd : Nat) (snx : Int32) (swr : Int32) (snu : Int32) (ste : Int32) (sma : Int32) (sde : Int32) (sli : Int32) (mop : Nat) (sod : Int32) (mst : Nat) (sto : Int32) (mwd : Nat) (msd : Nat) (sx_ : Int32) (mws : Nat) (sun : Int32) (mfr : Nat) (mqu : Nat) (miw : Nat) (sfi : Int32) (swa : Int32) (sdx : Int64) (mim : Nat) (mix : Nat) (mmd : Nat) (gsd : Nat → Int32) (gim : Nat → Int32) (gix : Nat → Int32) (gmd : Nat → Int32) (a : Int32) (r_a : Rg 0 3 a) (hmk : ¬ gmd (cN a) = 0) : Met l yX12_back (Cond.code yX12_back cX12_back 3 (some .int) :: TB) (RM 1 0 0) (va_Pc [.ref m0, .int a] (PRE D cs X [(m0, .inr (10, (.ref mtp :: .int sta :: .int sru :: .ref msg :: .ref mln :: .ref mcl :: .ref mcs :: .ref mrd :: .int snx :: .int swr :: .int snu :: .int ste :: .int sma :: .int sde :: .int sli :: .ref mop :: .int sod :: .ref mst :: .int sto :: .ref mwd :: .ref msd :: .int sx_ :: .ref mws :: .int sun :: .ref mfr :: .ref mqu :: .ref miw :: .int sfi :: .int swa :: .long sdx :: .ref mim :: .ref mix :: .ref mmd :: []))), (msd, .inl ((cs 0), 133, .inl gsd)), (mim, .inl ((cs 0), 532, .inl gim)), (mix, .inl ((cs 0), 4, .inl gix)), (mmd, .inl ((cs 3), 4, .inl gmd))] [] sz)) (va_Qi (S := Unit) (fun r _ => True) (fun _ t => ∃ (sx_2 : Int32), ∃ (gsd2 : Nat → Int32), (sx_2 = gix (cN a)) ∧ (BCK gsd gsd2 gim (cN a) 133) ∧ va_P D vwCl [(m0, .inr (10, (.ref mtp :: .int sta :: .int sru :: .ref msg :: .ref mln :: .ref mcl :: .ref mcs :: .ref mrd :: .int snx :: .int swr :: .int snu :: .int ste :: .int sma :: .int sde :: .int sli :: .ref mop :: .int sod :: .ref mst :: .int sto :: .ref mwd :: .ref msd :: .int sx_2 :: .ref mws :: .int 0 :: .ref mfr :: .ref mqu :: .ref miw :: .int sfi :: .int swa :: .long sdx :: .ref mim :: .ref mix :: .ref mmd :: []))), (msd, .inl ((cs 0), 133, .inl gsd2)), (mim, .inl ((cs 0), 532, .inl gim)), (mix, .inl ((cs 0), 4, .inl gix)), (mmd, .inl ((cs 3), 4, .inl gmd))] t.heap ∧ va_D (va_A [(m0, .inr (10, (.ref mtp :: .int sta :: .int sru :: .ref msg :: .ref mln :: .ref mcl :: .ref mcs :: .ref mrd :: .int snx :: .int swr :: .int snu :: .int ste :: .int sma :: .int sde :: .int sli :: .ref mop :: .int sod :: .ref mst :: .int sto :: .ref mwd :: .ref msd :: .int sx_ :: .ref mws :: .int sun :: .ref mfr :: .ref mqu :: .ref miw :: .int sfi :: .int swa :: .long sdx :: .ref mim :: .ref mix :: .ref mmd :: []))), (msd, .inl ((cs 0), 133, .inl gsd)), (mim, .inl ((cs 0), 532, .inl gim)), (mix, .inl ((cs 0), 4, .inl gix)), (mmd, .inl ((cs 3), 4, .inl gmd))] sz) [(m0, .inr (10, (.ref mtp :: .int sta :: .int sru :: .ref msg :: .ref mln :: .ref mcl :: .ref mcs :: .ref mrd :: .int snx :: .int swr :: .int snu :: .int ste :: .int sma :: .int sde :: .int sli :: .ref mop :: .int sod :: .ref mst :: .int sto :: .ref mwd :: .ref msd :: .int sx_2 :: .ref mws :: .int 0 :: .ref mfr :: .ref mqu :: .ref miw :: .int sfi :: .int swa :: .long sdx :: .ref mim :: .ref mix :: .ref mmd :: []))), (msd, .inl ((cs 0), 133, .inl gsd2)), (mim, .inl ((cs 0), 532, .inl gim)), (mix, .inl ((cs 0), 4, .inl gix)), (mmd, .inl ((cs 3), 4, .inl gmd))]) (va_A [(m0, .inr (10, (.ref mtp :: .int sta :: .int sru :: .ref msg :: .ref mln :: .ref mcl :: .ref mcs :: .ref mrd :: .int snx :: .int swr :: .int snu :: .int ste :: .int sma :: .int sde :: .int sli :: .ref mop :: .int sod :: .ref mst :: .int sto :: .ref mwd :: .ref msd :: .int sx_ :: .ref mws :: .int sun :: .ref mfr :: .ref mqu :: .ref miw :: .int sfi :: .int swa :: .long sdx :: .ref mim :: .ref mix :: .ref mmd :: []))), (msd, .inl ((cs 0), 133, .inl gsd)), (mim, .inl ((cs 0), 532, .inl gim)), (mix, .inl ((cs 0), 4, .inl gix)), (mmd, .inl ((cs 3), 4, .inl gmd))] sz)) 0 0 (va_A [(m0, .inr (10, (.ref mtp :: .int sta :: .int sru :: .ref msg :: .ref mln :: .ref mcl :: .ref mcs :: .ref mrd :: .int snx :: .int swr :: .int snu :: .int ste :: .int sma :: .int sde :: .int sli :: .ref mop :: .int sod :: .ref mst :: .int sto :: .ref mwd :: .ref msd :: .int sx_ :: .ref mws :: .int sun :: .ref mfr :: .ref mqu :: .ref miw :: .int sfi :: .int swa :: .long sdx :: .ref mim :: .ref mix :: .ref mmd :: []))), (msd, .inl ((cs 0), 133, .inl gsd)), (mim, .inl ((cs 0), 532, .inl gim)), (mix, .inl ((cs 0), 4, .inl gix)), (mmd, .inl ((cs 3), 4, .inl gmd))] sz) := by
  refine MET (y := yX12_back) (cc := cX12_back) (maxL := 3) (ret := (some .int)) (d := 1) (mc := 0) (ms := 0) (D := D) (cs := cs) (X := X) (ws := [(m0, .inr (10, (.ref mtp :: .int sta :: .int sru :: .ref msg :: .ref mln :: .ref mcl :: .ref mcs :: .ref mrd :: .int snx :: .int swr :: .int snu :: .int ste :: .int sma :: .int sde :: .int sli :: .ref mop :: .int sod :: .ref mst :: .int sto :: .ref mwd :: .ref msd :: .int sx_ :: .ref mws :: .int sun :: .ref mfr :: .ref mqu :: .ref miw :: .int sfi :: .int swa :: .long sdx :: .ref mim :: .ref mix :: .ref mmd :: []))), (msd, .inl ((cs 0), 133, .inl gsd)), (mim, .inl ((cs 0), 532, .inl gim)), (mix, .inl ((cs 0), 4, .inl gix)), (mmd, .inl ((cs 3), 4, .inl gmd))]) (wo := []) (sz := sz) (av := [.ref m0, .int a]) (Qc := fun A => va_Qi (S := Unit) (fun r _ => True) (fun _ t => ∃ (sx_2 : Int32), ∃ (gsd2 : Nat → Int32), (sx_2 = gix (cN a)) ∧ (BCK gsd gsd2 gim (cN a) 133) ∧ va_P D vwCl [(m0, .inr (10, (.ref mtp :: .int sta :: .int sru :: .ref msg :: .ref mln :: .ref mcl :: .ref mcs :: .ref mrd :: .int snx :: .int swr :: .int snu :: .int ste :: .int sma :: .int sde :: .int sli :: .ref mop :: .int sod :: .ref mst :: .int sto :: .ref mwd :: .ref msd :: .int sx_2 :: .ref mws :: .int 0 :: .ref mfr :: .ref mqu :: .ref miw :: .int sfi :: .int swa :: .long sdx :: .ref mim :: .ref mix :: .ref mmd :: []))), (msd, .inl ((cs 0), 133, .inl gsd2)), (mim, .inl ((cs 0), 532, .inl gim)), (mix, .inl ((cs 0), 4, .inl gix)), (mmd, .inl ((cs 3), 4, .inl gmd))] t.heap ∧ va_D A [(m0, .inr (10, (.ref mtp :: .int sta :: .int sru :: .ref msg :: .ref mln :: .ref mcl :: .ref mcs :: .ref mrd :: .int snx :: .int swr :: .int snu :: .int ste :: .int sma :: .int sde :: .int sli :: .ref mop :: .int sod :: .ref mst :: .int sto :: .ref mwd :: .ref msd :: .int sx_2 :: .ref mws :: .int 0 :: .ref mfr :: .ref mqu :: .ref miw :: .int sfi :: .int swa :: .long sdx :: .ref mim :: .ref mix :: .ref mmd :: []))), (msd, .inl ((cs 0), 133, .inl gsd2)), (mim, .inl ((cs 0), 532, .inl gim)), (mix, .inl ((cs 0), 4, .inl gix)), (mmd, .inl ((cs 3), 4, .inl gmd))]) A) (by decide) (Nat.le_of_ble_eq_true rfl) ?_
  intro p e s m below meth c ls A H hHe hx hb hr hml hown hts hlocks hnm hP hK hD hA hS hN hR hX hXs hl
  have hD : va_D A [(m0, .inr (10, (.ref mtp :: .int sta :: .int sru :: .ref msg :: .ref mln :: .ref mcl :: .ref mcs :: .ref mrd :: .int snx :: .int swr :: .int snu :: .int ste :: .int sma :: .int sde :: .int sli :: .ref mop :: .int sod :: .ref mst :: .int sto :: .ref mwd :: .ref msd :: .int sx_ :: .ref mws :: .int sun :: .ref mfr :: .ref mqu :: .ref miw :: .int sfi :: .int swa :: .long sdx :: .ref mim :: .ref mix :: .ref mmd :: []))), (msd, .inl ((cs 0), 133, .inl gsd)), (mim, .inl ((cs 0), 532, .inl gim)), (mix, .inl ((cs 0), 4, .inl gix)), (mmd, .inl ((cs 3), 4, .inl gmd))] := hD
  obtain ⟨locs, hlc⟩ : ∃ z : List Loc, z = [] := ⟨_, rfl⟩
  rw [← hlc] at hS ⊢
  have hown : s.vm.findClass "WrongHoleModel" = some m.cls := hown
  have hT : ∀ w ∈ TB, w.before ([.ref m0, .int a] : List Value).toArray s = true := fun w h => hts w (List.mem_cons_of_mem _ h)
  have hl : lv_has ls 3 [(0, .ref m0), (1, .int a)] := hl
  have hP : va_P D vwCl [(m0, .inr (10, (.ref mtp :: .int sta :: .int sru :: .ref msg :: .ref mln :: .ref mcl :: .ref mcs :: .ref mrd :: .int snx :: .int swr :: .int snu :: .int ste :: .int sma :: .int sde :: .int sli :: .ref mop :: .int sod :: .ref mst :: .int sto :: .ref mwd :: .ref msd :: .int sx_ :: .ref mws :: .int sun :: .ref mfr :: .ref mqu :: .ref miw :: .int sfi :: .int swa :: .long sdx :: .ref mim :: .ref mix :: .ref mmd :: []))), (msd, .inl ((cs 0), 133, .inl gsd)), (mim, .inl ((cs 0), 532, .inl gim)), (mix, .inl ((cs 0), 4, .inl gix)), (mmd, .inl ((cs 3), 4, .inl gmd))] H := hP
  refine lv_iload_n hx hb dX12_back_0 rfl (lv_at hl 1 rfl) ?_
  refine lv_i2l (v := Int32.toInt64 a) hx hb dX12_back_1 rfl ?_
  refine lv_topl (fun x_1 e_2 => ?_)
  refine lv_lconst (v := 0) hx hb dX12_back_2 (by decide) ?_
  refine lv_ldc2 (v := 3) hx hb hown (hT _ qq_8_99) dX12_back_3 ?_
  have hPc := va_P.sub (ws' := []) hP [] rfl
  refine cl_P (W.runS (As := [.long x_1, .long 0, .long 3]) (rest := []) ⟨hx, hb, hml, hown, hts⟩ (c_M_in_x l D cs x_1 0 3) ⟨callB_of 3 hts (gd_C qq_6_97) rfl rfl rfl (hT _ qq_1_9) (hT _ qq_6_95) (by decide +kernel) (rm_R rfl rfl), (hT _ qq_6_96)⟩ (pq_S hPc hK hN) rfl rfl hl.1 rfl (lv_room (Nat.le_of_ble_eq_true rfl)) dX12_back_6 ⟨Nat.le_of_ble_eq_true rfl, Nat.le_of_ble_eq_true rfl⟩) (fun v9 hz_4 => ?_)
  obtain ⟨x_3, rfl, r_5⟩ := hz_4
  refine lv_if_eq (tgt := 21) hx hb dX12_back_9 (by decide) (fun c_6 => False.elim ((r_5.2.mpr (in_yes e_2 r_a rfl rfl)) c_6)) (fun c_6 => ?_)
  refine lv_aload_n hx hb dX12_back_12 rfl (lv_at hl 0 rfl) ?_
  refine va_get (D := D) (ci := 10) (v := .ref mmd) (C := "WrongHoleModel") (T := TX12) (N := 33) hx hb hts (iq_RX12 _) hown hK hP 0 rfl rfl 32 (by decide) (hT _ qq_5_184) (fun _ h9 => h9) rfl dX12_back_13 ?_
  refine lv_iload_n hx hb dX12_back_16 rfl (lv_at hl 1 rfl) ?_
  have hi_7 : vp_in a 4 := Rg.in r_a (by decide)
  refine va_zald hx hb hK hP 4 3 rfl rfl hi_7 dX12_back_17 ?_
  refine lv_topi (fun x_8 e_9 => ?_)
  refine lv_if_ne (tgt := 23) hx hb dX12_back_18 (by decide) (fun c_10 => ?_) (fun c_10 => False.elim ((hmk (e_9.symm.trans c_10))))
  refine lv_aload_n hx hb dX12_back_23 rfl (lv_at hl 0 rfl) ?_
  refine lv_aload_n hx hb dX12_back_24 rfl (lv_at hl 0 rfl) ?_
  refine va_get (D := D) (ci := 10) (v := .ref mix) (C := "WrongHoleModel") (T := TX12) (N := 33) hx hb hts (iq_RX12 _) hown hK hP 0 rfl rfl 31 (by decide) (hT _ qq_5_183) (fun _ h9 => h9) rfl dX12_back_25 ?_
  refine lv_iload_n hx hb dX12_back_28 rfl (lv_at hl 1 rfl) ?_
  have hi_11 : vp_in a 4 := Rg.in r_a (by decide)
  refine va_iald hx hb hK hP 3 0 rfl rfl hi_11 dX12_back_29 ?_
  refine lv_topi (fun x_12 e_13 => ?_)
  refine va_put (D := D) (ci := 10) (v := .int x_12) (ty := .int) (C := "WrongHoleModel") (T := TX12) (N := 33) hx hb hts (iq_RX12 _) tyX12 tyX12_ok nmX12 hown hK hP hD hS 0 rfl rfl 21 (by decide) (hT _ qq_5_173) (fun _ h9 => h9) rfl (by decide +kernel) rfl rfl (Nat.le_of_ble_eq_true rfl) dX12_back_30 (fun H locs hP hD hS => ?_)
  have hP : va_P D vwCl [(m0, .inr (10, (.ref mtp :: .int sta :: .int sru :: .ref msg :: .ref mln :: .ref mcl :: .ref mcs :: .ref mrd :: .int snx :: .int swr :: .int snu :: .int ste :: .int sma :: .int sde :: .int sli :: .ref mop :: .int sod :: .ref mst :: .int sto :: .ref mwd :: .ref msd :: .int x_12 :: .ref mws :: .int sun :: .ref mfr :: .ref mqu :: .ref miw :: .int sfi :: .int swa :: .long sdx :: .ref mim :: .ref mix :: .ref mmd :: []))), (msd, .inl ((cs 0), 133, .inl gsd)), (mim, .inl ((cs 0), 532, .inl gim)), (mix, .inl ((cs 0), 4, .inl gix)), (mmd, .inl ((cs 3), 4, .inl gmd))] H := hP
  have hD : va_D A [(m0, .inr (10, (.ref mtp :: .int sta :: .int sru :: .ref msg :: .ref mln :: .ref mcl :: .ref mcs :: .ref mrd :: .int snx :: .int swr :: .int snu :: .int ste :: .int sma :: .int sde :: .int sli :: .ref mop :: .int sod :: .ref mst :: .int sto :: .ref mwd :: .ref msd :: .int x_12 :: .ref mws :: .int sun :: .ref mfr :: .ref mqu :: .ref miw :: .int sfi :: .int swa :: .long sdx :: .ref mim :: .ref mix :: .ref mmd :: []))), (msd, .inl ((cs 0), 133, .inl gsd)), (mim, .inl ((cs 0), 532, .inl gim)), (mix, .inl ((cs 0), 4, .inl gix)), (mmd, .inl ((cs 3), 4, .inl gmd))] := hD
  refine lv_aload_n hx hb dX12_back_33 rfl (lv_at hl 0 rfl) ?_
  refine lv_iconst (v := 0) hx hb dX12_back_34 (by decide) ?_
  refine va_put (D := D) (ci := 10) (v := .int 0) (ty := .int) (C := "WrongHoleModel") (T := TX12) (N := 33) hx hb hts (iq_RX12 _) tyX12 tyX12_ok nmX12 hown hK hP hD hS 0 rfl rfl 23 (by decide) (hT _ qq_5_175) (fun _ h9 => h9) rfl (by decide +kernel) rfl rfl (Nat.le_of_ble_eq_true rfl) dX12_back_35 (fun H locs hP hD hS => ?_)
  have hP : va_P D vwCl [(m0, .inr (10, (.ref mtp :: .int sta :: .int sru :: .ref msg :: .ref mln :: .ref mcl :: .ref mcs :: .ref mrd :: .int snx :: .int swr :: .int snu :: .int ste :: .int sma :: .int sde :: .int sli :: .ref mop :: .int sod :: .ref mst :: .int sto :: .ref mwd :: .ref msd :: .int x_12 :: .ref mws :: .int 0 :: .ref mfr :: .ref mqu :: .ref miw :: .int sfi :: .int swa :: .long sdx :: .ref mim :: .ref mix :: .ref mmd :: []))), (msd, .inl ((cs 0), 133, .inl gsd)), (mim, .inl ((cs 0), 532, .inl gim)), (mix, .inl ((cs 0), 4, .inl gix)), (mmd, .inl ((cs 3), 4, .inl gmd))] H := hP
  have hD : va_D A [(m0, .inr (10, (.ref mtp :: .int sta :: .int sru :: .ref msg :: .ref mln :: .ref mcl :: .ref mcs :: .ref mrd :: .int snx :: .int swr :: .int snu :: .int ste :: .int sma :: .int sde :: .int sli :: .ref mop :: .int sod :: .ref mst :: .int sto :: .ref mwd :: .ref msd :: .int x_12 :: .ref mws :: .int 0 :: .ref mfr :: .ref mqu :: .ref miw :: .int sfi :: .int swa :: .long sdx :: .ref mim :: .ref mix :: .ref mmd :: []))), (msd, .inl ((cs 0), 133, .inl gsd)), (mim, .inl ((cs 0), 532, .inl gim)), (mix, .inl ((cs 0), 4, .inl gix)), (mmd, .inl ((cs 3), 4, .inl gmd))] := hD
  refine lv_iconst (v := 0) hx hb dX12_back_38 (by decide) ?_
  refine lv_istore_n (lv' := [(2, .int 0), (0, .ref m0), (1, .int a)]) hx hb dX12_back_39 rfl hl (by decide) rfl (fun ls hl => ?_)
  refine w_wh (σ := (Int32) × (Nat → Int32)) (fun x9 H locs ls => match x9 with | (v_25, g_26) => Rg 0 133 v_25 ∧ (BCK gsd g_26 gim (cN a) (cN v_25)) ∧ va_P D vwCl [(m0, .inr (10, (.ref mtp :: .int sta :: .int sru :: .ref msg :: .ref mln :: .ref mcl :: .ref mcs :: .ref mrd :: .int snx :: .int swr :: .int snu :: .int ste :: .int sma :: .int sde :: .int sli :: .ref mop :: .int sod :: .ref mst :: .int sto :: .ref mwd :: .ref msd :: .int x_12 :: .ref mws :: .int 0 :: .ref mfr :: .ref mqu :: .ref miw :: .int sfi :: .int swa :: .long sdx :: .ref mim :: .ref mix :: .ref mmd :: []))), (msd, .inl ((cs 0), 133, .inl g_26)), (mim, .inl ((cs 0), 532, .inl gim)), (mix, .inl ((cs 0), 4, .inl gix)), (mmd, .inl ((cs 3), 4, .inl gmd))] H ∧ va_D A [(m0, .inr (10, (.ref mtp :: .int sta :: .int sru :: .ref msg :: .ref mln :: .ref mcl :: .ref mcs :: .ref mrd :: .int snx :: .int swr :: .int snu :: .int ste :: .int sma :: .int sde :: .int sli :: .ref mop :: .int sod :: .ref mst :: .int sto :: .ref mwd :: .ref msd :: .int x_12 :: .ref mws :: .int 0 :: .ref mfr :: .ref mqu :: .ref miw :: .int sfi :: .int swa :: .long sdx :: .ref mim :: .ref mix :: .ref mmd :: []))), (msd, .inl ((cs 0), 133, .inl g_26)), (mim, .inl ((cs 0), 532, .inl gim)), (mix, .inl ((cs 0), 4, .inl gix)), (mmd, .inl ((cs 3), 4, .inl gmd))] ∧ va_S A s.heap H locs ∧ lv_has ls 3 [(2, .int v_25), (0, .ref m0), (1, .int a)]) (fun x9 => match x9 with | (v_25, g_26) => (133 - Int32.toInt v_25).toNat) 40 ?_ (0, gsd) H locs ls ⟨(Rg.wk (lo2 := 0) (hi2 := 133) (Rg.c (c := 0) (k := 0) rfl) (by decide)), (fun i hi => absurd hi (Nat.not_lt_zero i)), hP, hD, hS, lv_sub hl [0, 1, 2] rfl⟩
  rintro ⟨v_25, g_26⟩ H locs ls ⟨r_152, iv_153, hP, hD, hS, hl⟩ ih_151
  refine lv_iload_n hx hb dX12_back_40 rfl (lv_at hl 0 rfl) ?_
  refine lv_sipush (v := 133) hx hb dX12_back_41 (by decide) ?_
  refine lv_icmp_ge (tgt := 71) hx hb dX12_back_44 (by decide) (fun c_154 => ?_) (fun c_154 => ?_)
  · have r_155 : Rg 133 133 v_25 := Rg.le_r c_154 (Rg.c (c := 133) (k := 133) rfl) r_152 (by decide)
    refine lv_aload_n hx hb dX12_back_71 rfl (lv_at hl 1 rfl) ?_
    refine va_get (D := D) (ci := 10) (v := .ref msd) (C := "WrongHoleModel") (T := TX12) (N := 33) hx hb hts (iq_RX12 _) hown hK hP 0 rfl rfl 20 (by decide) (hT _ qq_5_172) (fun _ h9 => h9) rfl dX12_back_72 ?_
    refine lv_iconst (v := 3) hx hb dX12_back_75 (by decide) ?_
    have hi_170 : vp_in 3 133 := vi_c rfl
    refine va_iald hx hb hK hP 1 0 rfl rfl hi_170 dX12_back_76 ?_
    refine lv_topi (fun x_171 e_172 => ?_)
    refine W.widen (k := 0) (n := 0) (Nat.le_of_ble_eq_true rfl) (Nat.le_of_ble_eq_true rfl) ?_
    have hP9 := hP.sub (ws' := [(m0, .inr (10, (.ref mtp :: .int sta :: .int sru :: .ref msg :: .ref mln :: .ref mcl :: .ref mcs :: .ref mrd :: .int snx :: .int swr :: .int snu :: .int ste :: .int sma :: .int sde :: .int sli :: .ref mop :: .int sod :: .ref mst :: .int sto :: .ref mwd :: .ref msd :: .int x_12 :: .ref mws :: .int 0 :: .ref mfr :: .ref mqu :: .ref miw :: .int sfi :: .int swa :: .long sdx :: .ref mim :: .ref mix :: .ref mmd :: []))), (msd, .inl ((cs 0), 133, .inl g_26)), (mim, .inl ((cs 0), 532, .inl gim)), (mix, .inl ((cs 0), 4, .inl gix)), (mmd, .inl ((cs 3), 4, .inl gmd))]) [0, 1, 2, 3, 4] rfl
    have hD9 := hD.sub (ws' := [(m0, .inr (10, (.ref mtp :: .int sta :: .int sru :: .ref msg :: .ref mln :: .ref mcl :: .ref mcs :: .ref mrd :: .int snx :: .int swr :: .int snu :: .int ste :: .int sma :: .int sde :: .int sli :: .ref mop :: .int sod :: .ref mst :: .int sto :: .ref mwd :: .ref msd :: .int x_12 :: .ref mws :: .int 0 :: .ref mfr :: .ref mqu :: .ref miw :: .int sfi :: .int swa :: .long sdx :: .ref mim :: .ref mix :: .ref mmd :: []))), (msd, .inl ((cs 0), 133, .inl g_26)), (mim, .inl ((cs 0), 532, .inl gim)), (mix, .inl ((cs 0), 4, .inl gix)), (mmd, .inl ((cs 3), 4, .inl gmd))]) [0, 1, 2, 3, 4] (by decide) rfl
    exact W.iret (v := x_171) hx hb hr (fun t9 ht9 hW9 => ⟨⟨_, (), rfl, trivial, ⟨x_12, g_26, e_13, (by have h9 := iv_153; rw [show cN v_25 = 133 from by have h9 := le_cN c_154 (Rg.c (c := 133) (k := 133) rfl) r_155 (by decide); have h8 : cN 133 = 133 := rfl; have h7 := cN_le (n := 133) (Rg.wk (lo2 := 0) (hi2 := 133) r_155 (by decide)) (by decide); omega] at h9; exact h9), by rw [ht9]; exact hP9, hD9⟩⟩, hS.F ht9⟩) hS.2.2 dX12_back_77
  · have r_156 : Rg 0 132 v_25 := Rg.lt_l (nle_lt c_154) r_152 (Rg.c (c := 133) (k := 133) rfl) (by decide)
    refine lv_aload_n hx hb dX12_back_47 rfl (lv_at hl 1 rfl) ?_
    refine va_get (D := D) (ci := 10) (v := .ref msd) (C := "WrongHoleModel") (T := TX12) (N := 33) hx hb hts (iq_RX12 _) hown hK hP 0 rfl rfl 20 (by decide) (hT _ qq_5_172) (fun _ h9 => h9) rfl dX12_back_48 ?_
    refine lv_iload_n hx hb dX12_back_51 rfl (lv_at hl 0 rfl) ?_
    refine lv_aload_n hx hb dX12_back_52 rfl (lv_at hl 1 rfl) ?_
    refine va_get (D := D) (ci := 10) (v := .ref mim) (C := "WrongHoleModel") (T := TX12) (N := 33) hx hb hts (iq_RX12 _) hown hK hP 0 rfl rfl 30 (by decide) (hT _ qq_5_182) (fun _ h9 => h9) rfl dX12_back_53 ?_
    refine lv_sipush (v := 133) hx hb dX12_back_56 (by decide) ?_
    refine lv_iload_n hx hb dX12_back_59 rfl (lv_at hl 2 rfl) ?_
    refine lv_imul hx hb dX12_back_60 ?_
    refine lv_topi (fun x_173 e_174 => ?_)
    have r_175 : Rg 0 399 x_173 := Rg.mul (ha := 133) (hb := 3) e_174 (Rg.wk (lo2 := 0) (hi2 := 133) (Rg.c (c := 133) (k := 133) rfl) (by decide)) r_a (by decide)
    refine lv_iload_n hx hb dX12_back_61 rfl (lv_at hl 0 rfl) ?_
    refine lv_iadd hx hb dX12_back_62 ?_
    refine lv_topi (fun x_176 e_177 => ?_)
    have r_178 : Rg 0 531 x_176 := Rg.add e_177 r_175 r_156 (by decide)
    have hi_179 : vp_in x_176 532 := Rg.in r_178 (by decide)
    refine va_iald hx hb hK hP 2 0 rfl rfl hi_179 dX12_back_63 ?_
    refine lv_topi (fun x_180 e_181 => ?_)
    have hi_182 : vp_in v_25 133 := Rg.in r_156 (by decide)
    refine va_iast hx hb hK hP hD hS 1 0 rfl rfl hi_182 dX12_back_64 (fun H locs hP hD hS => ?_)
    obtain ⟨g_183, rb_184, hP, hD⟩ : ∃ g_183 : Nat → Int32, (BCK gsd g_183 gim (cN a) (cN v_25 + 1)) ∧ va_P D vwCl [(m0, .inr (10, (.ref mtp :: .int sta :: .int sru :: .ref msg :: .ref mln :: .ref mcl :: .ref mcs :: .ref mrd :: .int snx :: .int swr :: .int snu :: .int ste :: .int sma :: .int sde :: .int sli :: .ref mop :: .int sod :: .ref mst :: .int sto :: .ref mwd :: .ref msd :: .int x_12 :: .ref mws :: .int 0 :: .ref mfr :: .ref mqu :: .ref miw :: .int sfi :: .int swa :: .long sdx :: .ref mim :: .ref mix :: .ref mmd :: []))), (msd, .inl ((cs 0), 133, .inl g_183)), (mim, .inl ((cs 0), 532, .inl gim)), (mix, .inl ((cs 0), 4, .inl gix)), (mmd, .inl ((cs 3), 4, .inl gmd))] H ∧ va_D A [(m0, .inr (10, (.ref mtp :: .int sta :: .int sru :: .ref msg :: .ref mln :: .ref mcl :: .ref mcs :: .ref mrd :: .int snx :: .int swr :: .int snu :: .int ste :: .int sma :: .int sde :: .int sli :: .ref mop :: .int sod :: .ref mst :: .int sto :: .ref mwd :: .ref msd :: .int x_12 :: .ref mws :: .int 0 :: .ref mfr :: .ref mqu :: .ref miw :: .int sfi :: .int swa :: .long sdx :: .ref mim :: .ref mix :: .ref mmd :: []))), (msd, .inl ((cs 0), 133, .inl g_183)), (mim, .inl ((cs 0), 532, .inl gim)), (mix, .inl ((cs 0), 4, .inl gix)), (mmd, .inl ((cs 3), 4, .inl gmd))] := ⟨_, bck_st iv_153 (show x_180 = gim (133 * cN a + cN v_25) from by rw [e_181, show Int32.toNatClampNeg x_176 = _ from (ixk e_174 e_177 r_a r_156 (by decide))]), hP, hD⟩
    obtain ⟨x_185, e_186⟩ : ∃ z : Int32, z = v_25 + Int32.ofInt 1 := ⟨_, rfl⟩
    have r_187 : Rg 1 133 x_185 := Rg.add e_186 r_156 (Rg.c (c := Int32.ofInt 1) (k := 1) rfl) (by decide)
    refine lv_iinc (v := x_185) (lv' := [(2, .int x_185), (0, .ref m0), (1, .int a)]) hx hb dX12_back_65 hl (k := 0) rfl (e_186.symm) (by decide) rfl (fun ls hl => ?_)
    refine lv_goto (tgt := 40) hx hb dX12_back_68 (by decide) ?_
    exact ih_151 (x_185, g_183) _ _ _ ⟨(Rg.wk (lo2 := 0) (hi2 := 133) r_187 (by decide)), (by rw [(cN_add (k := 1) e_186 r_156 (Rg.c (c := Int32.ofInt 1) (k := 1) rfl) (by decide))]; exact rb_184), hP, hD, hS, lv_sub hl [0, 1, 2] rfl⟩ (ms_up e_186 r_156 (Rg.c (c := Int32.ofInt 1) (k := 1) rfl) (by decide))
set_option maxHeartbeats 4000000 in
set_option maxRecDepth 100000 in
theorem c_M_back_0 (l : Launch) (D : va_G) (cs : Nat → ClassId) (m0 : Nat) (mtp : Nat) (sta : Int32) (sru : Int32) (msg : Nat) (mln : Nat) (mcl : Nat) (mcs : Nat) (mrd : Nat) (snx : Int32) (swr : Int32) (snu : Int32) (ste : Int32) (sma : Int32) (sde : Int32) (sli : Int32) (mop : Nat) (sod : Int32) (mst : Nat) (sto : Int32) (mwd : Nat) (msd : Nat) (sx_ : Int32) (mws : Nat) (sun : Int32) (mfr : Nat) (mqu : Nat) (miw : Nat) (sfi : Int32) (swa : Int32) (sdx : Int64) (mim : Nat) (mix : Nat) (mmd : Nat) (gmd : Nat → Int32) (a : Int32) (r_a : Rg 0 3 a) (hm0 : gmd (cN a) = 0) : Met l yX12_back (Cond.code yX12_back cX12_back 3 (some .int) :: TB) (RM 1 0 0) (va_Pc [.ref m0, .int a] (PRR D cs [(m0, .inr (10, (.ref mtp :: .int sta :: .int sru :: .ref msg :: .ref mln :: .ref mcl :: .ref mcs :: .ref mrd :: .int snx :: .int swr :: .int snu :: .int ste :: .int sma :: .int sde :: .int sli :: .ref mop :: .int sod :: .ref mst :: .int sto :: .ref mwd :: .ref msd :: .int sx_ :: .ref mws :: .int sun :: .ref mfr :: .ref mqu :: .ref miw :: .int sfi :: .int swa :: .long sdx :: .ref mim :: .ref mix :: .ref mmd :: []))), (mmd, .inl ((cs 3), 4, .inl gmd))])) (QP (fun v => ∃ x : Int32, v = .int x)) 0 0 (fun _ => False) := by
  refine MER (y := yX12_back) (cc := cX12_back) (maxL := 3) (ret := (some .int)) (d := 1) (D := D) (cs := cs) (ws := [(m0, .inr (10, (.ref mtp :: .int sta :: .int sru :: .ref msg :: .ref mln :: .ref mcl :: .ref mcs :: .ref mrd :: .int snx :: .int swr :: .int snu :: .int ste :: .int sma :: .int sde :: .int sli :: .ref mop :: .int sod :: .ref mst :: .int sto :: .ref mwd :: .ref msd :: .int sx_ :: .ref mws :: .int sun :: .ref mfr :: .ref mqu :: .ref miw :: .int sfi :: .int swa :: .long sdx :: .ref mim :: .ref mix :: .ref mmd :: []))), (mmd, .inl ((cs 3), 4, .inl gmd))]) (av := [.ref m0, .int a]) (Qc := QP (fun v => ∃ x : Int32, v = .int x)) (by decide) (Nat.le_of_ble_eq_true rfl) ?_
  intro p e s m below meth c ls H hHe hx hb hr hml hown hts hlocks hP hK hN hl
  obtain ⟨locs, hlc⟩ : ∃ z : List Loc, z = [] := ⟨_, rfl⟩
  rw [← hlc]
  have hown : s.vm.findClass "WrongHoleModel" = some m.cls := hown
  have hT : ∀ w ∈ TB, w.before ([.ref m0, .int a] : List Value).toArray s = true := fun w h => hts w (List.mem_cons_of_mem _ h)
  have hl : lv_has ls 3 [(0, .ref m0), (1, .int a)] := hl
  have hP : va_P D vwCl [(m0, .inr (10, (.ref mtp :: .int sta :: .int sru :: .ref msg :: .ref mln :: .ref mcl :: .ref mcs :: .ref mrd :: .int snx :: .int swr :: .int snu :: .int ste :: .int sma :: .int sde :: .int sli :: .ref mop :: .int sod :: .ref mst :: .int sto :: .ref mwd :: .ref msd :: .int sx_ :: .ref mws :: .int sun :: .ref mfr :: .ref mqu :: .ref miw :: .int sfi :: .int swa :: .long sdx :: .ref mim :: .ref mix :: .ref mmd :: []))), (mmd, .inl ((cs 3), 4, .inl gmd))] H := hP
  refine lv_iload_n hx hb dX12_back_0 rfl (lv_at hl 1 rfl) ?_
  refine lv_i2l (v := Int32.toInt64 a) hx hb dX12_back_1 rfl ?_
  refine lv_topl (fun x_1 e_2 => ?_)
  refine lv_lconst (v := 0) hx hb dX12_back_2 (by decide) ?_
  refine lv_ldc2 (v := 3) hx hb hown (hT _ qq_8_99) dX12_back_3 ?_
  have hPc := va_P.sub (ws' := []) hP [] rfl
  refine cl_P (W.runS (As := [.long x_1, .long 0, .long 3]) (rest := []) ⟨hx, hb, hml, hown, hts⟩ (c_M_in_x l D cs x_1 0 3) ⟨callB_of 3 hts (gd_C qq_6_97) rfl rfl rfl (hT _ qq_1_9) (hT _ qq_6_95) (by decide +kernel) (rm_R rfl rfl), (hT _ qq_6_96)⟩ (pq_S hPc hK hN) rfl rfl hl.1 rfl (lv_room (Nat.le_of_ble_eq_true rfl)) dX12_back_6 ⟨Nat.le_of_ble_eq_true rfl, Nat.le_of_ble_eq_true rfl⟩) (fun v9 hz_4 => ?_)
  obtain ⟨x_3, rfl, r_5⟩ := hz_4
  refine lv_if_eq (tgt := 21) hx hb dX12_back_9 (by decide) (fun c_6 => False.elim ((r_5.2.mpr (in_yes e_2 r_a rfl rfl)) c_6)) (fun c_6 => ?_)
  refine lv_aload_n hx hb dX12_back_12 rfl (lv_at hl 0 rfl) ?_
  refine va_get (D := D) (ci := 10) (v := .ref mmd) (C := "WrongHoleModel") (T := TX12) (N := 33) hx hb hts (iq_RX12 _) hown hK hP 0 rfl rfl 32 (by decide) (hT _ qq_5_184) (fun _ h9 => h9) rfl dX12_back_13 ?_
  refine lv_iload_n hx hb dX12_back_16 rfl (lv_at hl 1 rfl) ?_
  have hi_7 : vp_in a 4 := Rg.in r_a (by decide)
  refine va_zald hx hb hK hP 1 3 rfl rfl hi_7 dX12_back_17 ?_
  refine lv_topi (fun x_8 e_9 => ?_)
  refine lv_if_ne (tgt := 23) hx hb dX12_back_18 (by decide) (fun c_10 => False.elim ((c_10 (e_9.trans hm0)))) (fun c_10 => ?_)
  refine lv_iconst (v := (-1)) hx hb dX12_back_21 (by decide) ?_
  exact W.iret (v := (-1)) hx hb hr (fun t9 ht9 hW9 => ⟨⟨_, rfl, _, rfl⟩, ht9.trans hHe⟩) (fun _ h9 => by rw [hlc] at h9; exact absurd h9 List.not_mem_nil) dX12_back_22
