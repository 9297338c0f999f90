theorem dX12_floor_0 : decode cX12_floor 0 = .ok (.aload_n 0, 1) := by decide +kernel
theorem dX12_floor_1 : decode cX12_floor 1 = .ok (.invokevirtual 397, 3) := by decide +kernel
theorem dX12_floor_4 : decode cX12_floor 4 = .ok (.ifCond .eq 27, 3) := by decide +kernel
theorem dX12_floor_31 : decode cX12_floor 31 = .ok (.iconst (-1), 1) := by decide +kernel
theorem dX12_floor_32 : decode cX12_floor 32 = .ok (.ireturn, 1) := by decide +kernel
theorem dX12_floor_7 : decode cX12_floor 7 = .ok (.iload_n 1, 1) := by decide +kernel
theorem dX12_floor_8 : decode cX12_floor 8 = .ok (.i2l, 1) := by decide +kernel
theorem dX12_floor_9 : decode cX12_floor 9 = .ok (.lconst 0, 1) := by decide +kernel
theorem dX12_floor_10 : decode cX12_floor 10 = .ok (.ldc2_w 485, 3) := by decide +kernel
theorem qq_8_18 : Cond.constantLong "WrongHoleModel" 485 300 ∈ TB := mk_tb (ti_8 (List.mem_of_getElem? (i := 18) rfl)) rfl
theorem dX12_floor_13 : decode cX12_floor 13 = .ok (.invokestatic 104, 3) := by decide +kernel
theorem dX12_floor_16 : decode cX12_floor 16 = .ok (.ifCond .eq 15, 3) := by decide +kernel
theorem dX12_floor_19 : decode cX12_floor 19 = .ok (.iload_n 2, 1) := by decide +kernel
theorem dX12_floor_20 : decode cX12_floor 20 = .ok (.i2l, 1) := by decide +kernel
theorem dX12_floor_21 : decode cX12_floor 21 = .ok (.lconst 0, 1) := by decide +kernel
theorem dX12_floor_22 : decode cX12_floor 22 = .ok (.ldc2_w 395, 3) := by decide +kernel
theorem dX12_floor_25 : decode cX12_floor 25 = .ok (.invokestatic 104, 3) := by decide +kernel
theorem dX12_floor_28 : decode cX12_floor 28 = .ok (.ifCond .ne 5, 3) := by decide +kernel
theorem dX12_floor_33 : decode cX12_floor 33 = .ok (.aload_n 0, 1) := by decide +kernel
theorem dX12_floor_34 : decode cX12_floor 34 = .ok (.iload_n 1, 1) := by decide +kernel
theorem dX12_floor_35 : decode cX12_floor 35 = .ok (.invokevirtual 487, 3) := by decide +kernel
theorem qq_8_22 : Cond.code yX12_countsSeconds cX12_countsSeconds 5 none ∈ TB := mk_tb (ti_8 (List.mem_of_getElem? (i := 22) rfl)) rfl
theorem qq_8_19 : Cond.methodLink "WrongHoleModel" 487 yX12_countsSeconds ∈ TB := mk_tb (ti_8 (List.mem_of_getElem? (i := 19) rfl)) rfl
theorem qq_8_21 : Cond.instanceMethod yX12_countsSeconds ∈ TB := mk_tb (ti_8 (List.mem_of_getElem? (i := 21) rfl)) rfl
theorem qs_7_4 : Cond.selects "WrongHoleModel" yX12_countsSeconds yX12_countsSeconds ∈ TB := mk_tb (ti_s (q := (yX12_countsSeconds, 33)) (List.mem_append_right _ (List.mem_append_right _ (List.mem_append_right _ (List.mem_append_right _ (List.mem_append_right _ (List.mem_append_right _ (List.mem_append_right _ (List.mem_of_getElem? (i := 4) rfl))))))))) rfl
theorem dX12_floor_38 : decode cX12_floor 38 = .ok (.iconst (-1), 1) := by decide +kernel
theorem dX12_floor_39 : decode cX12_floor 39 = .ok (.istore_n 3, 1) := by decide +kernel
theorem dX12_floor_40 : decode cX12_floor 40 = .ok (.iconst 0, 1) := by decide +kernel
theorem dX12_floor_41 : decode cX12_floor 41 = .ok (.istore 4, 2) := by decide +kernel
theorem dX12_floor_43 : decode cX12_floor 43 = .ok (.iconst 0, 1) := by decide +kernel
theorem dX12_floor_44 : decode cX12_floor 44 = .ok (.istore 5, 2) := by decide +kernel
theorem dX12_floor_46 : decode cX12_floor 46 = .ok (.iconst 0, 1) := by decide +kernel
theorem dX12_floor_47 : decode cX12_floor 47 = .ok (.istore 6, 2) := by decide +kernel
theorem dX12_floor_49 : decode cX12_floor 49 = .ok (.iload 6, 2) := by decide +kernel
theorem dX12_floor_51 : decode cX12_floor 51 = .ok (.ldc 45, 2) := by decide +kernel
theorem dX12_floor_53 : decode cX12_floor 53 = .ok (.if_icmp .ge 118, 3) := by decide +kernel
theorem dX12_floor_171 : decode cX12_floor 171 = .ok (.iload_n 2, 1) := by decide +kernel
theorem dX12_floor_172 : decode cX12_floor 172 = .ok (.ifCond .ne 7, 3) := by decide +kernel
theorem dX12_floor_179 : decode cX12_floor 179 = .ok (.iload_n 2, 1) := by decide +kernel
theorem dX12_floor_180 : decode cX12_floor 180 = .ok (.iconst 1, 1) := by decide +kernel
theorem dX12_floor_181 : decode cX12_floor 181 = .ok (.if_icmp .ne 8, 3) := by decide +kernel
theorem dX12_floor_189 : decode cX12_floor 189 = .ok (.iload 5, 2) := by decide +kernel
theorem dX12_floor_191 : decode cX12_floor 191 = .ok (.ireturn, 1) := by decide +kernel
theorem dX12_floor_184 : decode cX12_floor 184 = .ok (.iload 4, 2) := by decide +kernel
theorem dX12_floor_186 : decode cX12_floor 186 = .ok (.goto 5, 3) := by decide +kernel
theorem dX12_floor_175 : decode cX12_floor 175 = .ok (.iload_n 3, 1) := by decide +kernel
theorem dX12_floor_176 : decode cX12_floor 176 = .ok (.goto 15, 3) := by decide +kernel
theorem dX12_floor_56 : decode cX12_floor 56 = .ok (.aload_n 0, 1) := by decide +kernel
theorem dX12_floor_57 : decode cX12_floor 57 = .ok (.getfield 46, 3) := by decide +kernel
theorem dX12_floor_60 : decode cX12_floor 60 = .ok (.iload 6, 2) := by decide +kernel
theorem dX12_floor_62 : decode cX12_floor 62 = .ok (.iaload, 1) := by decide +kernel
theorem dX12_floor_63 : decode cX12_floor 63 = .ok (.ifCond .ge 6, 3) := by decide +kernel
theorem dX12_floor_165 : decode cX12_floor 165 = .ok (.iinc 6 1, 3) := by decide +kernel
theorem dX12_floor_168 : decode cX12_floor 168 = .ok (.goto (-119), 3) := by decide +kernel
theorem dX12_floor_69 : decode cX12_floor 69 = .ok (.aload_n 0, 1) := by decide +kernel
theorem dX12_floor_70 : decode cX12_floor 70 = .ok (.iload 6, 2) := by decide +kernel
theorem dX12_floor_72 : decode cX12_floor 72 = .ok (.invokevirtual 490, 3) := by decide +kernel
theorem qq_8_26 : Cond.code yX12_worthIn cX12_worthIn 5 (some .int) ∈ TB := mk_tb (ti_8 (List.mem_of_getElem? (i := 26) rfl)) rfl
theorem qq_8_23 : Cond.methodLink "WrongHoleModel" 490 yX12_worthIn ∈ TB := mk_tb (ti_8 (List.mem_of_getElem? (i := 23) rfl)) rfl
theorem qq_8_25 : Cond.instanceMethod yX12_worthIn ∈ TB := mk_tb (ti_8 (List.mem_of_getElem? (i := 25) rfl)) rfl
theorem qs_7_5 : Cond.selects "WrongHoleModel" yX12_worthIn yX12_worthIn ∈ TB := mk_tb (ti_s (q := (yX12_worthIn, 33)) (List.mem_append_right _ (List.mem_append_right _ (List.mem_append_right _ (List.mem_append_right _ (List.mem_append_right _ (List.mem_append_right _ (List.mem_append_right _ (List.mem_of_getElem? (i := 5) rfl))))))))) rfl
theorem dX12_floor_75 : decode cX12_floor 75 = .ok (.istore 7, 2) := by decide +kernel
theorem dX12_floor_77 : decode cX12_floor 77 = .ok (.iload 7, 2) := by decide +kernel
theorem dX12_floor_79 : decode cX12_floor 79 = .ok (.iload_n 3, 1) := by decide +kernel
theorem dX12_floor_80 : decode cX12_floor 80 = .ok (.if_icmp .ge 6, 3) := by decide +kernel
theorem dX12_floor_86 : decode cX12_floor 86 = .ok (.aload_n 0, 1) := by decide +kernel
theorem dX12_floor_87 : decode cX12_floor 87 = .ok (.iload 6, 2) := by decide +kernel
theorem dX12_floor_89 : decode cX12_floor 89 = .ok (.aload_n 0, 1) := by decide +kernel
theorem dX12_floor_90 : decode cX12_floor 90 = .ok (.getfield 39, 3) := by decide +kernel
theorem dX12_floor_93 : decode cX12_floor 93 = .ok (.iconst 3, 1) := by decide +kernel
theorem dX12_floor_94 : decode cX12_floor 94 = .ok (.iaload, 1) := by decide +kernel
theorem dX12_floor_95 : decode cX12_floor 95 = .ok (.iload_n 1, 1) := by decide +kernel
theorem dX12_floor_96 : decode cX12_floor 96 = .ok (.iadd, 1) := by decide +kernel
theorem dX12_floor_97 : decode cX12_floor 97 = .ok (.invokevirtual 410, 3) := by decide +kernel
theorem dX12_floor_100 : decode cX12_floor 100 = .ok (.istore 8, 2) := by decide +kernel
theorem dX12_floor_102 : decode cX12_floor 102 = .ok (.iload 7, 2) := by decide +kernel
theorem dX12_floor_104 : decode cX12_floor 104 = .ok (.iload_n 3, 1) := by decide +kernel
theorem dX12_floor_105 : decode cX12_floor 105 = .ok (.if_icmp .gt 29, 3) := by decide +kernel
theorem dX12_floor_139 : decode cX12_floor 139 = .ok (.istore 9, 2) := by decide +kernel
theorem dX12_floor_141 : decode cX12_floor 141 = .ok (.iload 9, 2) := by decide +kernel
theorem dX12_floor_143 : decode cX12_floor 143 = .ok (.ifCond .ne 6, 3) := by decide +kernel
theorem dX12_floor_149 : decode cX12_floor 149 = .ok (.iload 7, 2) := by decide +kernel
theorem dX12_floor_151 : decode cX12_floor 151 = .ok (.istore_n 3, 1) := by decide +kernel
theorem dX12_floor_152 : decode cX12_floor 152 = .ok (.iload 8, 2) := by decide +kernel
theorem dX12_floor_154 : decode cX12_floor 154 = .ok (.istore 4, 2) := by decide +kernel
theorem dX12_floor_156 : decode cX12_floor 156 = .ok (.aload_n 0, 1) := by decide +kernel
theorem dX12_floor_157 : decode cX12_floor 157 = .ok (.getfield 46, 3) := by decide +kernel
theorem dX12_floor_160 : decode cX12_floor 160 = .ok (.iload 6, 2) := by decide +kernel
theorem dX12_floor_162 : decode cX12_floor 162 = .ok (.iaload, 1) := by decide +kernel
theorem dX12_floor_163 : decode cX12_floor 163 = .ok (.istore 5, 2) := by decide +kernel
theorem dX12_floor_146 : decode cX12_floor 146 = .ok (.goto 19, 3) := by decide +kernel
theorem dX12_floor_134 : decode cX12_floor 134 = .ok (.iconst 1, 1) := by decide +kernel
theorem dX12_floor_135 : decode cX12_floor 135 = .ok (.goto 4, 3) := by decide +kernel
theorem dX12_floor_108 : decode cX12_floor 108 = .ok (.iload 8, 2) := by decide +kernel
theorem dX12_floor_110 : decode cX12_floor 110 = .ok (.iload 4, 2) := by decide +kernel
theorem dX12_floor_112 : decode cX12_floor 112 = .ok (.if_icmp .lt 22, 3) := by decide +kernel
theorem dX12_floor_115 : decode cX12_floor 115 = .ok (.iload 8, 2) := by decide +kernel
theorem dX12_floor_117 : decode cX12_floor 117 = .ok (.iload 4, 2) := by decide +kernel
theorem dX12_floor_119 : decode cX12_floor 119 = .ok (.if_icmp .ne 19, 3) := by decide +kernel
theorem dX12_floor_138 : decode cX12_floor 138 = .ok (.iconst 0, 1) := by decide +kernel
theorem dX12_floor_122 : decode cX12_floor 122 = .ok (.aload_n 0, 1) := by decide +kernel
theorem dX12_floor_123 : decode cX12_floor 123 = .ok (.getfield 46, 3) := by decide +kernel
theorem dX12_floor_126 : decode cX12_floor 126 = .ok (.iload 6, 2) := by decide +kernel
theorem dX12_floor_128 : decode cX12_floor 128 = .ok (.iaload, 1) := by decide +kernel
theorem dX12_floor_129 : decode cX12_floor 129 = .ok (.iload 5, 2) := by decide +kernel
theorem dX12_floor_131 : decode cX12_floor 131 = .ok (.if_icmp .ge 7, 3) := by decide +kernel
theorem dX12_floor_83 : decode cX12_floor 83 = .ok (.goto 82, 3) := by decide +kernel
theorem dX12_floor_66 : decode cX12_floor 66 = .ok (.goto 99, 3) := by decide +kernel
set_option maxHeartbeats 4000000 in
set_option maxRecDepth 100000 in
theorem c_M_floor (l : Launch) (D : va_G) (cs : Nat → ClassId) (X : XX) (sz : Nat) (m0 : Nat) (mtp : Nat) (sta : Int32) (sru : Int32) (msg : Nat) (mln : Nat) (mcl : Nat) (mcs : Nat) (mrd : Nat) (snx : Int32) (swr : Int32) (snu : Int32) (ste : Int32) (sma : Int32) (sde : Int32) (sli : Int32) (mop : Nat) (sod : Int32) (mst : Nat) (sto : Int32) (mwd : Nat) (msd : Nat) (sx_ : Int32) (mws : Nat) (sun : Int32) (mfr : Nat) (mqu : Nat) (miw : Nat) (sfi : Int32) (swa : Int32) (sdx : Int64) (mim : Nat) (mix : Nat) (mmd : Nat) (gsd : Nat → Int32) (gfr : Nat → Int32) (gqu : Nat → Int32) (giw : Nat → Int32) (a : Int32) (b : Int32) (hsi : SI gsd) (hqb : QBK gqu) : Met l yX12_floor (Cond.code yX12_floor cX12_floor 10 (some .int) :: TB) (RM 7 0 0) (va_Pc [.ref m0, .int a, .int b] (PRE D cs X [(m0, .inr (10, (.ref mtp :: .int sta :: .int sru :: .ref msg :: .ref mln :: .ref mcl :: .ref mcs :: .ref mrd :: .int snx :: .int swr :: .int snu :: .int ste :: .int sma :: .int sde :: .int sli :: .ref mop :: .int sod :: .ref mst :: .int sto :: .ref mwd :: .ref msd :: .int sx_ :: .ref mws :: .int sun :: .ref mfr :: .ref mqu :: .ref miw :: .int sfi :: .int swa :: .long sdx :: .ref mim :: .ref mix :: .ref mmd :: []))), (msd, .inl ((cs 0), 133, .inl gsd)), (mfr, .inl ((cs 0), 65536, .inl gfr)), (mqu, .inl ((cs 0), 65536, .inl gqu)), (miw, .inl ((cs 3), 65536, .inl giw))] [] sz)) (va_Qi (S := Unit) (fun r _ => True) (fun _ t => ∃ (sfi2 : Int32), ∃ (swa2 : Int32), ∃ (gfr2 : Nat → Int32), ∃ (gqu2 : Nat → Int32), ∃ (giw2 : Nat → Int32), (QBK gqu2) ∧ va_P D vwCl [(m0, .inr (10, (.ref mtp :: .int sta :: .int sru :: .ref msg :: .ref mln :: .ref mcl :: .ref mcs :: .ref mrd :: .int snx :: .int swr :: .int snu :: .int ste :: .int sma :: .int sde :: .int sli :: .ref mop :: .int sod :: .ref mst :: .int sto :: .ref mwd :: .ref msd :: .int sx_ :: .ref mws :: .int sun :: .ref mfr :: .ref mqu :: .ref miw :: .int sfi2 :: .int swa2 :: .long sdx :: .ref mim :: .ref mix :: .ref mmd :: []))), (msd, .inl ((cs 0), 133, .inl gsd)), (mfr, .inl ((cs 0), 65536, .inl gfr2)), (mqu, .inl ((cs 0), 65536, .inl gqu2)), (miw, .inl ((cs 3), 65536, .inl giw2))] t.heap ∧ va_D (va_A [(m0, .inr (10, (.ref mtp :: .int sta :: .int sru :: .ref msg :: .ref mln :: .ref mcl :: .ref mcs :: .ref mrd :: .int snx :: .int swr :: .int snu :: .int ste :: .int sma :: .int sde :: .int sli :: .ref mop :: .int sod :: .ref mst :: .int sto :: .ref mwd :: .ref msd :: .int sx_ :: .ref mws :: .int sun :: .ref mfr :: .ref mqu :: .ref miw :: .int sfi :: .int swa :: .long sdx :: .ref mim :: .ref mix :: .ref mmd :: []))), (msd, .inl ((cs 0), 133, .inl gsd)), (mfr, .inl ((cs 0), 65536, .inl gfr)), (mqu, .inl ((cs 0), 65536, .inl gqu)), (miw, .inl ((cs 3), 65536, .inl giw))] sz) [(m0, .inr (10, (.ref mtp :: .int sta :: .int sru :: .ref msg :: .ref mln :: .ref mcl :: .ref mcs :: .ref mrd :: .int snx :: .int swr :: .int snu :: .int ste :: .int sma :: .int sde :: .int sli :: .ref mop :: .int sod :: .ref mst :: .int sto :: .ref mwd :: .ref msd :: .int sx_ :: .ref mws :: .int sun :: .ref mfr :: .ref mqu :: .ref miw :: .int sfi2 :: .int swa2 :: .long sdx :: .ref mim :: .ref mix :: .ref mmd :: []))), (msd, .inl ((cs 0), 133, .inl gsd)), (mfr, .inl ((cs 0), 65536, .inl gfr2)), (mqu, .inl ((cs 0), 65536, .inl gqu2)), (miw, .inl ((cs 3), 65536, .inl giw2))]) (va_A [(m0, .inr (10, (.ref mtp :: .int sta :: .int sru :: .ref msg :: .ref mln :: .ref mcl :: .ref mcs :: .ref mrd :: .int snx :: .int swr :: .int snu :: .int ste :: .int sma :: .int sde :: .int sli :: .ref mop :: .int sod :: .ref mst :: .int sto :: .ref mwd :: .ref msd :: .int sx_ :: .ref mws :: .int sun :: .ref mfr :: .ref mqu :: .ref miw :: .int sfi :: .int swa :: .long sdx :: .ref mim :: .ref mix :: .ref mmd :: []))), (msd, .inl ((cs 0), 133, .inl gsd)), (mfr, .inl ((cs 0), 65536, .inl gfr)), (mqu, .inl ((cs 0), 65536, .inl gqu)), (miw, .inl ((cs 3), 65536, .inl giw))] sz)) 0 0 (va_A [(m0, .inr (10, (.ref mtp :: .int sta :: .int sru :: .ref msg :: .ref mln :: .ref mcl :: .ref mcs :: .ref mrd :: .int snx :: .int swr :: .int snu :: .int ste :: .int sma :: .int sde :: .int sli :: .ref mop :: .int sod :: .ref mst :: .int sto :: .ref mwd :: .ref msd :: .int sx_ :: .ref mws :: .int sun :: .ref mfr :: .ref mqu :: .ref miw :: .int sfi :: .int swa :: .long sdx :: .ref mim :: .ref mix :: .ref mmd :: []))), (msd, .inl ((cs 0), 133, .inl gsd)), (mfr, .inl ((cs 0), 65536, .inl gfr)), (mqu, .inl ((cs 0), 65536, .inl gqu)), (miw, .inl ((cs 3), 65536, .inl giw))] sz) := by
  refine MET (y := yX12_floor) (cc := cX12_floor) (maxL := 10) (ret := (some .int)) (d := 7) (mc := 0) (ms := 0) (D := D) (cs := cs) (X := X) (ws := [(m0, .inr (10, (.ref mtp :: .int sta :: .int sru :: .ref msg :: .ref mln :: .ref mcl :: .ref mcs :: .ref mrd :: .int snx :: .int swr :: .int snu :: .int ste :: .int sma :: .int sde :: .int sli :: .ref mop :: .int sod :: .ref mst :: .int sto :: .ref mwd :: .ref msd :: .int sx_ :: .ref mws :: .int sun :: .ref mfr :: .ref mqu :: .ref miw :: .int sfi :: .int swa :: .long sdx :: .ref mim :: .ref mix :: .ref mmd :: []))), (msd, .inl ((cs 0), 133, .inl gsd)), (mfr, .inl ((cs 0), 65536, .inl gfr)), (mqu, .inl ((cs 0), 65536, .inl gqu)), (miw, .inl ((cs 3), 65536, .inl giw))]) (wo := []) (sz := sz) (av := [.ref m0, .int a, .int b]) (Qc := fun A => va_Qi (S := Unit) (fun r _ => True) (fun _ t => ∃ (sfi2 : Int32), ∃ (swa2 : Int32), ∃ (gfr2 : Nat → Int32), ∃ (gqu2 : Nat → Int32), ∃ (giw2 : Nat → Int32), (QBK gqu2) ∧ va_P D vwCl [(m0, .inr (10, (.ref mtp :: .int sta :: .int sru :: .ref msg :: .ref mln :: .ref mcl :: .ref mcs :: .ref mrd :: .int snx :: .int swr :: .int snu :: .int ste :: .int sma :: .int sde :: .int sli :: .ref mop :: .int sod :: .ref mst :: .int sto :: .ref mwd :: .ref msd :: .int sx_ :: .ref mws :: .int sun :: .ref mfr :: .ref mqu :: .ref miw :: .int sfi2 :: .int swa2 :: .long sdx :: .ref mim :: .ref mix :: .ref mmd :: []))), (msd, .inl ((cs 0), 133, .inl gsd)), (mfr, .inl ((cs 0), 65536, .inl gfr2)), (mqu, .inl ((cs 0), 65536, .inl gqu2)), (miw, .inl ((cs 3), 65536, .inl giw2))] t.heap ∧ va_D A [(m0, .inr (10, (.ref mtp :: .int sta :: .int sru :: .ref msg :: .ref mln :: .ref mcl :: .ref mcs :: .ref mrd :: .int snx :: .int swr :: .int snu :: .int ste :: .int sma :: .int sde :: .int sli :: .ref mop :: .int sod :: .ref mst :: .int sto :: .ref mwd :: .ref msd :: .int sx_ :: .ref mws :: .int sun :: .ref mfr :: .ref mqu :: .ref miw :: .int sfi2 :: .int swa2 :: .long sdx :: .ref mim :: .ref mix :: .ref mmd :: []))), (msd, .inl ((cs 0), 133, .inl gsd)), (mfr, .inl ((cs 0), 65536, .inl gfr2)), (mqu, .inl ((cs 0), 65536, .inl gqu2)), (miw, .inl ((cs 3), 65536, .inl giw2))]) A) (by decide) (Nat.le_of_ble_eq_true rfl) ?_
  intro p e s m below meth c ls A H hHe hx hb hr hml hown hts hlocks hnm hP hK hD hA hS hN hR hX hXs hl
  have hD : va_D A [(m0, .inr (10, (.ref mtp :: .int sta :: .int sru :: .ref msg :: .ref mln :: .ref mcl :: .ref mcs :: .ref mrd :: .int snx :: .int swr :: .int snu :: .int ste :: .int sma :: .int sde :: .int sli :: .ref mop :: .int sod :: .ref mst :: .int sto :: .ref mwd :: .ref msd :: .int sx_ :: .ref mws :: .int sun :: .ref mfr :: .ref mqu :: .ref miw :: .int sfi :: .int swa :: .long sdx :: .ref mim :: .ref mix :: .ref mmd :: []))), (msd, .inl ((cs 0), 133, .inl gsd)), (mfr, .inl ((cs 0), 65536, .inl gfr)), (mqu, .inl ((cs 0), 65536, .inl gqu)), (miw, .inl ((cs 3), 65536, .inl giw))] := hD
  obtain ⟨locs, hlc⟩ : ∃ z : List Loc, z = [] := ⟨_, rfl⟩
  rw [← hlc] at hS ⊢
  have hown : s.vm.findClass "WrongHoleModel" = some m.cls := hown
  have hT : ∀ w ∈ TB, w.before ([.ref m0, .int a, .int b] : List Value).toArray s = true := fun w h => hts w (List.mem_cons_of_mem _ h)
  have hl : lv_has ls 10 [(0, .ref m0), (1, .int a), (2, .int b)] := hl
  have hP : va_P D vwCl [(m0, .inr (10, (.ref mtp :: .int sta :: .int sru :: .ref msg :: .ref mln :: .ref mcl :: .ref mcs :: .ref mrd :: .int snx :: .int swr :: .int snu :: .int ste :: .int sma :: .int sde :: .int sli :: .ref mop :: .int sod :: .ref mst :: .int sto :: .ref mwd :: .ref msd :: .int sx_ :: .ref mws :: .int sun :: .ref mfr :: .ref mqu :: .ref miw :: .int sfi :: .int swa :: .long sdx :: .ref mim :: .ref mix :: .ref mmd :: []))), (msd, .inl ((cs 0), 133, .inl gsd)), (mfr, .inl ((cs 0), 65536, .inl gfr)), (mqu, .inl ((cs 0), 65536, .inl gqu)), (miw, .inl ((cs 3), 65536, .inl giw))] H := hP
  refine lv_aload_n hx hb dX12_floor_0 rfl (lv_at hl 0 rfl) ?_
  have hPc := va_P.sub (ws' := [(m0, .inr (10, (.ref mtp :: .int sta :: .int sru :: .ref msg :: .ref mln :: .ref mcl :: .ref mcs :: .ref mrd :: .int snx :: .int swr :: .int snu :: .int ste :: .int sma :: .int sde :: .int sli :: .ref mop :: .int sod :: .ref mst :: .int sto :: .ref mwd :: .ref msd :: .int sx_ :: .ref mws :: .int sun :: .ref mfr :: .ref mqu :: .ref miw :: .int sfi :: .int swa :: .long sdx :: .ref mim :: .ref mix :: .ref mmd :: []))), (msd, .inl ((cs 0), 133, .inl gsd))]) hP [0, 1] rfl
  refine cl_P (W.runV (As := []) (rest := []) ⟨hx, hb, hml, hown, hts⟩ (c_M_isLift l D cs m0 mtp sta sru msg mln mcl mcs mrd snx swr snu ste sma sde sli mop sod mst sto mwd msd sx_ mws sun mfr mqu miw sfi swa sdx mim mix mmd gsd hsi) ⟨callB_of 0 hts (gd_C qq_7_46) rfl rfl rfl (hT _ qq_1_9) (hT _ qq_7_43) (by decide +kernel) (rm_R rfl rfl), (hT _ qq_7_45), (hT _ qs_5_2)⟩ (pq_V hPc hK hN (ci := 10) (q0 := 0) rfl rfl) rfl rfl hl.1 rfl (lv_room (Nat.le_of_ble_eq_true rfl)) dX12_floor_1 ⟨Nat.le_of_ble_eq_true rfl, Nat.le_of_ble_eq_true rfl⟩) (fun v9 hz_2 => ?_)
  obtain ⟨x_1, rfl, r_3⟩ := hz_2
  refine lv_if_eq (tgt := 31) hx hb dX12_floor_4 (by decide) (fun c_4 => ?_) (fun c_4 => ?_)
  · have r_5 : Rg 0 0 x_1 := Rg.eq_l c_4 r_3.1 (Rg.c (c := 0) (k := 0) rfl) (by decide)
    refine lv_iconst (v := (-1)) hx hb dX12_floor_31 (by decide) ?_
    refine W.widen (k := 0) (n := 0) (Nat.le_of_ble_eq_true rfl) (Nat.le_of_ble_eq_true rfl) ?_
    have hP9 := hP.sub (ws' := [(m0, .inr (10, (.ref mtp :: .int sta :: .int sru :: .ref msg :: .ref mln :: .ref mcl :: .ref mcs :: .ref mrd :: .int snx :: .int swr :: .int snu :: .int ste :: .int sma :: .int sde :: .int sli :: .ref mop :: .int sod :: .ref mst :: .int sto :: .ref mwd :: .ref msd :: .int sx_ :: .ref mws :: .int sun :: .ref mfr :: .ref mqu :: .ref miw :: .int sfi :: .int swa :: .long sdx :: .ref mim :: .ref mix :: .ref mmd :: []))), (msd, .inl ((cs 0), 133, .inl gsd)), (mfr, .inl ((cs 0), 65536, .inl gfr)), (mqu, .inl ((cs 0), 65536, .inl gqu)), (miw, .inl ((cs 3), 65536, .inl giw))]) [0, 1, 2, 3, 4] rfl
    have hD9 := hD.sub (ws' := [(m0, .inr (10, (.ref mtp :: .int sta :: .int sru :: .ref msg :: .ref mln :: .ref mcl :: .ref mcs :: .ref mrd :: .int snx :: .int swr :: .int snu :: .int ste :: .int sma :: .int sde :: .int sli :: .ref mop :: .int sod :: .ref mst :: .int sto :: .ref mwd :: .ref msd :: .int sx_ :: .ref mws :: .int sun :: .ref mfr :: .ref mqu :: .ref miw :: .int sfi :: .int swa :: .long sdx :: .ref mim :: .ref mix :: .ref mmd :: []))), (msd, .inl ((cs 0), 133, .inl gsd)), (mfr, .inl ((cs 0), 65536, .inl gfr)), (mqu, .inl ((cs 0), 65536, .inl gqu)), (miw, .inl ((cs 3), 65536, .inl giw))]) [0, 1, 2, 3, 4] (by decide) rfl
    exact W.iret (v := (-1)) hx hb hr (fun t9 ht9 hW9 => ⟨⟨_, (), rfl, trivial, ⟨sfi, swa, gfr, gqu, giw, hqb, by rw [ht9]; exact hP9, hD9⟩⟩, hS.F ht9⟩) hS.2.2 dX12_floor_32
  · have r_6 : Rg 1 1 x_1 := Rg.ne c_4 r_3.1 (Rg.c (c := 0) (k := 0) rfl) (by decide)
    refine lv_iload_n hx hb dX12_floor_7 rfl (lv_at hl 1 rfl) ?_
    refine lv_i2l (v := Int32.toInt64 a) hx hb dX12_floor_8 rfl ?_
    refine lv_topl (fun x_7 e_8 => ?_)
    refine lv_lconst (v := 0) hx hb dX12_floor_9 (by decide) ?_
    refine lv_ldc2 (v := 300) hx hb hown (hT _ qq_8_18) dX12_floor_10 ?_
    have hPc := va_P.sub (ws' := []) hP [] rfl
    refine cl_P (W.runS (As := [.long x_7, .long 0, .long 300]) (rest := []) ⟨hx, hb, hml, hown, hts⟩ (c_M_in l D cs x_7 0 300) ⟨callB_of 3 hts (gd_C qq_6_97) rfl rfl rfl (hT _ qq_1_9) (hT _ qq_6_95) (by decide +kernel) (rm_R rfl rfl), (hT _ qq_6_96)⟩ (pq_S hPc hK hN) rfl rfl hl.1 rfl (lv_room (Nat.le_of_ble_eq_true rfl)) dX12_floor_13 ⟨Nat.le_of_ble_eq_true rfl, Nat.le_of_ble_eq_true rfl⟩) (fun v9 hz_10 => ?_)
    obtain ⟨x_9, rfl, r_11⟩ := hz_10
    refine lv_if_eq (tgt := 31) hx hb dX12_floor_16 (by decide) (fun c_12 => ?_) (fun c_12 => ?_)
    · have r_13 : Rg 0 0 x_9 := Rg.eq_l c_12 r_11.1 (Rg.c (c := 0) (k := 0) rfl) (by decide)
      refine lv_iconst (v := (-1)) hx hb dX12_floor_31 (by decide) ?_
      refine W.widen (k := 0) (n := 0) (Nat.le_of_ble_eq_true rfl) (Nat.le_of_ble_eq_true rfl) ?_
      have hP9 := hP.sub (ws' := [(m0, .inr (10, (.ref mtp :: .int sta :: .int sru :: .ref msg :: .ref mln :: .ref mcl :: .ref mcs :: .ref mrd :: .int snx :: .int swr :: .int snu :: .int ste :: .int sma :: .int sde :: .int sli :: .ref mop :: .int sod :: .ref mst :: .int sto :: .ref mwd :: .ref msd :: .int sx_ :: .ref mws :: .int sun :: .ref mfr :: .ref mqu :: .ref miw :: .int sfi :: .int swa :: .long sdx :: .ref mim :: .ref mix :: .ref mmd :: []))), (msd, .inl ((cs 0), 133, .inl gsd)), (mfr, .inl ((cs 0), 65536, .inl gfr)), (mqu, .inl ((cs 0), 65536, .inl gqu)), (miw, .inl ((cs 3), 65536, .inl giw))]) [0, 1, 2, 3, 4] rfl
      have hD9 := hD.sub (ws' := [(m0, .inr (10, (.ref mtp :: .int sta :: .int sru :: .ref msg :: .ref mln :: .ref mcl :: .ref mcs :: .ref mrd :: .int snx :: .int swr :: .int snu :: .int ste :: .int sma :: .int sde :: .int sli :: .ref mop :: .int sod :: .ref mst :: .int sto :: .ref mwd :: .ref msd :: .int sx_ :: .ref mws :: .int sun :: .ref mfr :: .ref mqu :: .ref miw :: .int sfi :: .int swa :: .long sdx :: .ref mim :: .ref mix :: .ref mmd :: []))), (msd, .inl ((cs 0), 133, .inl gsd)), (mfr, .inl ((cs 0), 65536, .inl gfr)), (mqu, .inl ((cs 0), 65536, .inl gqu)), (miw, .inl ((cs 3), 65536, .inl giw))]) [0, 1, 2, 3, 4] (by decide) rfl
      exact W.iret (v := (-1)) hx hb hr (fun t9 ht9 hW9 => ⟨⟨_, (), rfl, trivial, ⟨sfi, swa, gfr, gqu, giw, hqb, by rw [ht9]; exact hP9, hD9⟩⟩, hS.F ht9⟩) hS.2.2 dX12_floor_32
    · have r_14 : Rg 1 1 x_9 := Rg.ne c_12 r_11.1 (Rg.c (c := 0) (k := 0) rfl) (by decide)
      have r_15 : Rg 0 300 a := in_rg e_8 (r_11.2 c_12) (by decide) (by decide)
      refine lv_iload_n hx hb dX12_floor_19 rfl (lv_at hl 2 rfl) ?_
      refine lv_i2l (v := Int32.toInt64 b) hx hb dX12_floor_20 rfl ?_
      refine lv_topl (fun x_16 e_17 => ?_)
      refine lv_lconst (v := 0) hx hb dX12_floor_21 (by decide) ?_
      refine lv_ldc2 (v := 2) hx hb hown (hT _ qq_7_38) dX12_floor_22 ?_
      have hPc := va_P.sub (ws' := []) hP [] rfl
      refine cl_P (W.runS (As := [.long x_16, .long 0, .long 2]) (rest := []) ⟨hx, hb, hml, hown, hts⟩ (c_M_in l D cs x_16 0 2) ⟨callB_of 3 hts (gd_C qq_6_97) rfl rfl rfl (hT _ qq_1_9) (hT _ qq_6_95) (by decide +kernel) (rm_R rfl rfl), (hT _ qq_6_96)⟩ (pq_S hPc hK hN) rfl rfl hl.1 rfl (lv_room (Nat.le_of_ble_eq_true rfl)) dX12_floor_25 ⟨Nat.le_of_ble_eq_true rfl, Nat.le_of_ble_eq_true rfl⟩) (fun v9 hz_19 => ?_)
      obtain ⟨x_18, rfl, r_20⟩ := hz_19
      refine lv_if_ne (tgt := 33) hx hb dX12_floor_28 (by decide) (fun c_21 => ?_) (fun c_21 => ?_)
      · have r_22 : Rg 1 1 x_18 := Rg.ne c_21 r_20.1 (Rg.c (c := 0) (k := 0) rfl) (by decide)
        have r_23 : Rg 0 2 b := in_rg e_17 (r_20.2 c_21) (by decide) (by decide)
        refine lv_aload_n hx hb dX12_floor_33 rfl (lv_at hl 0 rfl) ?_
        refine lv_iload_n hx hb dX12_floor_34 rfl (lv_at hl 1 rfl) ?_
        have hPc := hP.sub (ws' := [(m0, .inr (10, (.ref mtp :: .int sta :: .int sru :: .ref msg :: .ref mln :: .ref mcl :: .ref mcs :: .ref mrd :: .int snx :: .int swr :: .int snu :: .int ste :: .int sma :: .int sde :: .int sli :: .ref mop :: .int sod :: .ref mst :: .int sto :: .ref mwd :: .ref msd :: .int sx_ :: .ref mws :: .int sun :: .ref mfr :: .ref mqu :: .ref miw :: .int sfi :: .int swa :: .long sdx :: .ref mim :: .ref mix :: .ref mmd :: []))), (msd, .inl ((cs 0), 133, .inl gsd)), (mfr, .inl ((cs 0), 65536, .inl gfr)), (mqu, .inl ((cs 0), 65536, .inl gqu)), (miw, .inl ((cs 3), 65536, .inl giw))]) [0, 1, 2, 3, 4] rfl
        have hDc := hD.sub (ws' := [(m0, .inr (10, (.ref mtp :: .int sta :: .int sru :: .ref msg :: .ref mln :: .ref mcl :: .ref mcs :: .ref mrd :: .int snx :: .int swr :: .int snu :: .int ste :: .int sma :: .int sde :: .int sli :: .ref mop :: .int sod :: .ref mst :: .int sto :: .ref mwd :: .ref msd :: .int sx_ :: .ref mws :: .int sun :: .ref mfr :: .ref mqu :: .ref miw :: .int sfi :: .int swa :: .long sdx :: .ref mim :: .ref mix :: .ref mmd :: []))), (msd, .inl ((cs 0), 133, .inl gsd)), (mfr, .inl ((cs 0), 65536, .inl gfr)), (mqu, .inl ((cs 0), 65536, .inl gqu)), (miw, .inl ((cs 3), 65536, .inl giw))]) [0, 1, 2, 3, 4] (by decide) rfl
        have hFc := va_free (wc := [(m0, .inr (10, (.ref mtp :: .int sta :: .int sru :: .ref msg :: .ref mln :: .ref mcl :: .ref mcs :: .ref mrd :: .int snx :: .int swr :: .int snu :: .int ste :: .int sma :: .int sde :: .int sli :: .ref mop :: .int sod :: .ref mst :: .int sto :: .ref mwd :: .ref msd :: .int sx_ :: .ref mws :: .int sun :: .ref mfr :: .ref mqu :: .ref miw :: .int sfi :: .int swa :: .long sdx :: .ref mim :: .ref mix :: .ref mmd :: []))), (msd, .inl ((cs 0), 133, .inl gsd)), (mfr, .inl ((cs 0), 65536, .inl gfr)), (mqu, .inl ((cs 0), 65536, .inl gqu)), (miw, .inl ((cs 3), 65536, .inl giw))]) hD hS hA [0, 1, 2, 3, 4] rfl
        refine va_callv (va_runV (As := [.int a]) (rest := []) ⟨hx, hb, hml, hown, hts⟩ (c_M_countsSeconds l D cs X H.size m0 mtp sta sru msg mln mcl mcs mrd snx swr snu ste sma sde sli mop sod mst sto mwd msd sx_ mws sun mfr mqu miw sfi swa sdx mim mix mmd gsd gfr gqu giw a hsi hqb (r_3.2 c_4) r_15) ⟨callB_of 1 hts (gd_C qq_8_22) rfl rfl rfl (hT _ qq_1_9) (hT _ qq_8_19) (by decide +kernel) (rm_R rfl rfl), (hT _ qq_8_21), (hT _ qs_7_4)⟩ (pr_V hPc hK hDc hN (hR.sub (wo' := []) [] rfl) hS hFc hX hXs (ci := 10) (q0 := 0) rfl rfl) rfl rfl hl.1 rfl (lv_room (Nat.le_of_ble_eq_true rfl)) dX12_floor_35 ⟨Nat.le_of_ble_eq_true rfl, Nat.le_of_ble_eq_true rfl⟩) hS (fun q _ h => hFc q h) hFc (fun u_25 t_28 H1 locs ht9 hvm hw_26 hB_27 hz1 hk1 hS => ?_)
        obtain ⟨v_30, v_31, g_32, g_33, g_34, rp_35, hP1, hD1⟩ := hB_27
        rw [ht9] at hP1
        obtain ⟨hP, hD⟩ := va_join (wr := []) (w1 := [(m0, .inr (10, (.ref mtp :: .int sta :: .int sru :: .ref msg :: .ref mln :: .ref mcl :: .ref mcs :: .ref mrd :: .int snx :: .int swr :: .int snu :: .int ste :: .int sma :: .int sde :: .int sli :: .ref mop :: .int sod :: .ref mst :: .int sto :: .ref mwd :: .ref msd :: .int sx_ :: .ref mws :: .int sun :: .ref mfr :: .ref mqu :: .ref miw :: .int v_30 :: .int v_31 :: .long sdx :: .ref mim :: .ref mix :: .ref mmd :: []))), (msd, .inl ((cs 0), 133, .inl gsd)), (mfr, .inl ((cs 0), 65536, .inl g_32)), (mqu, .inl ((cs 0), 65536, .inl g_33)), (miw, .inl ((cs 3), 65536, .inl g_34))]) hP hD [0, 1, 2, 3, 4] [] rfl rfl (by decide) (by decide) hk1 hFc hP1 hD1
        generalize H1 = H at hP hS ⊢
        have hP : va_P D vwCl [(m0, .inr (10, (.ref mtp :: .int sta :: .int sru :: .ref msg :: .ref mln :: .ref mcl :: .ref mcs :: .ref mrd :: .int snx :: .int swr :: .int snu :: .int ste :: .int sma :: .int sde :: .int sli :: .ref mop :: .int sod :: .ref mst :: .int sto :: .ref mwd :: .ref msd :: .int sx_ :: .ref mws :: .int sun :: .ref mfr :: .ref mqu :: .ref miw :: .int v_30 :: .int v_31 :: .long sdx :: .ref mim :: .ref mix :: .ref mmd :: []))), (msd, .inl ((cs 0), 133, .inl gsd)), (mfr, .inl ((cs 0), 65536, .inl g_32)), (mqu, .inl ((cs 0), 65536, .inl g_33)), (miw, .inl ((cs 3), 65536, .inl g_34))] H := hP
        have hD : va_D A [(m0, .inr (10, (.ref mtp :: .int sta :: .int sru :: .ref msg :: .ref mln :: .ref mcl :: .ref mcs :: .ref mrd :: .int snx :: .int swr :: .int snu :: .int ste :: .int sma :: .int sde :: .int sli :: .ref mop :: .int sod :: .ref mst :: .int sto :: .ref mwd :: .ref msd :: .int sx_ :: .ref mws :: .int sun :: .ref mfr :: .ref mqu :: .ref miw :: .int v_30 :: .int v_31 :: .long sdx :: .ref mim :: .ref mix :: .ref mmd :: []))), (msd, .inl ((cs 0), 133, .inl gsd)), (mfr, .inl ((cs 0), 65536, .inl g_32)), (mqu, .inl ((cs 0), 65536, .inl g_33)), (miw, .inl ((cs 3), 65536, .inl g_34))] := hD
        refine lv_iconst (v := (-1)) hx hb dX12_floor_38 (by decide) ?_
        refine lv_istore_n (lv' := [(3, .int (-1)), (0, .ref m0), (1, .int a), (2, .int b)]) hx hb dX12_floor_39 rfl hl (by decide) rfl (fun ls hl => ?_)
        refine lv_iconst (v := 0) hx hb dX12_floor_40 (by decide) ?_
        refine lv_istore (lv' := [(4, .int 0), (3, .int (-1)), (0, .ref m0), (1, .int a), (2, .int b)]) hx hb dX12_floor_41 hl (by decide) rfl (fun ls hl => ?_)
        refine lv_iconst (v := 0) hx hb dX12_floor_43 (by decide) ?_
        refine lv_istore (lv' := [(5, .int 0), (4, .int 0), (3, .int (-1)), (0, .ref m0), (1, .int a), (2, .int b)]) hx hb dX12_floor_44 hl (by decide) rfl (fun ls hl => ?_)
        refine lv_iconst (v := 0) hx hb dX12_floor_46 (by decide) ?_
        refine lv_istore (lv' := [(6, .int 0), (5, .int 0), (4, .int 0), (3, .int (-1)), (0, .ref m0), (1, .int a), (2, .int b)]) hx hb dX12_floor_47 hl (by decide) rfl (fun ls hl => ?_)
        refine w_wh (σ := (Int32) × (Int32) × (Int32) × (Int32)) (fun x9 H locs ls => match x9 with | (v_144, v_145, v_146, v_147) => Rg 0 65536 v_144 ∧ Rg (-1) 6619136 v_145 ∧ Rg (-1) 2147483647 v_147 ∧ va_P D vwCl [(m0, .inr (10, (.ref mtp :: .int sta :: .int sru :: .ref msg :: .ref mln :: .ref mcl :: .ref mcs :: .ref mrd :: .int snx :: .int swr :: .int snu :: .int ste :: .int sma :: .int sde :: .int sli :: .ref mop :: .int sod :: .ref mst :: .int sto :: .ref mwd :: .ref msd :: .int sx_ :: .ref mws :: .int sun :: .ref mfr :: .ref mqu :: .ref miw :: .int v_30 :: .int v_31 :: .long sdx :: .ref mim :: .ref mix :: .ref mmd :: []))), (msd, .inl ((cs 0), 133, .inl gsd)), (mfr, .inl ((cs 0), 65536, .inl g_32)), (mqu, .inl ((cs 0), 65536, .inl g_33)), (miw, .inl ((cs 3), 65536, .inl g_34))] H ∧ va_D A [(m0, .inr (10, (.ref mtp :: .int sta :: .int sru :: .ref msg :: .ref mln :: .ref mcl :: .ref mcs :: .ref mrd :: .int snx :: .int swr :: .int snu :: .int ste :: .int sma :: .int sde :: .int sli :: .ref mop :: .int sod :: .ref mst :: .int sto :: .ref mwd :: .ref msd :: .int sx_ :: .ref mws :: .int sun :: .ref mfr :: .ref mqu :: .ref miw :: .int v_30 :: .int v_31 :: .long sdx :: .ref mim :: .ref mix :: .ref mmd :: []))), (msd, .inl ((cs 0), 133, .inl gsd)), (mfr, .inl ((cs 0), 65536, .inl g_32)), (mqu, .inl ((cs 0), 65536, .inl g_33)), (miw, .inl ((cs 3), 65536, .inl g_34))] ∧ va_S A s.heap H locs ∧ lv_has ls 10 [(6, .int v_144), (5, .int v_145), (4, .int v_146), (3, .int v_147), (0, .ref m0), (1, .int a), (2, .int b)]) (fun x9 => match x9 with | (v_144, v_145, v_146, v_147) => (65536 - Int32.toInt v_144).toNat) 49 ?_ (0, 0, 0, (-1)) H locs ls ⟨(Rg.wk (lo2 := 0) (hi2 := 65536) (Rg.c (c := 0) (k := 0) rfl) (by decide)), (Rg.wk (lo2 := (-1)) (hi2 := 6619136) (Rg.c (c := 0) (k := 0) rfl) (by decide)), (Rg.wk (lo2 := (-1)) (hi2 := 2147483647) (Rg.c (c := (-1)) (k := (-1)) rfl) (by decide)), hP, hD, hS, lv_sub hl [0, 1, 2, 3, 4, 5, 6] rfl⟩
        rintro ⟨v_144, v_145, v_146, v_147⟩ H locs ls ⟨r_1013, r_1014, r_1015, hP, hD, hS, hl⟩ ih_1012
        refine lv_iload hx hb dX12_floor_49 (lv_at hl 0 rfl) ?_
        refine lv_ldc (v := 65536) hx hb hown (hT _ qq_5_151) dX12_floor_51 ?_
        refine lv_icmp_ge (tgt := 171) hx hb dX12_floor_53 (by decide) (fun c_1016 => ?_) (fun c_1016 => ?_)
        · have r_1017 : Rg 65536 65536 v_144 := Rg.le_r c_1016 (Rg.c (c := 65536) (k := 65536) rfl) r_1013 (by decide)
          refine lv_iload_n hx hb dX12_floor_171 rfl (lv_at hl 6 rfl) ?_
          refine lv_if_ne (tgt := 179) hx hb dX12_floor_172 (by decide) (fun c_1121 => ?_) (fun c_1121 => ?_)
          · have r_1122 : Rg 1 2 b := Rg.ne c_1121 r_23 (Rg.c (c := 0) (k := 0) rfl) (by decide)
            refine lv_iload_n hx hb dX12_floor_179 rfl (lv_at hl 6 rfl) ?_
            refine lv_iconst (v := 1) hx hb dX12_floor_180 (by decide) ?_
            refine lv_icmp_ne (tgt := 189) hx hb dX12_floor_181 (by decide) (fun c_1127 => ?_) (fun c_1127 => ?_)
            · have r_1128 : Rg 2 2 b := Rg.ne c_1127 r_1122 (Rg.c (c := 1) (k := 1) rfl) (by decide)
              refine lv_iload hx hb dX12_floor_189 (lv_at hl 1 rfl) ?_
              refine W.widen (k := 0) (n := 0) (Nat.le_of_ble_eq_true rfl) (Nat.le_of_ble_eq_true rfl) ?_
              have hP9 := hP.sub (ws' := [(m0, .inr (10, (.ref mtp :: .int sta :: .int sru :: .ref msg :: .ref mln :: .ref mcl :: .ref mcs :: .ref mrd :: .int snx :: .int swr :: .int snu :: .int ste :: .int sma :: .int sde :: .int sli :: .ref mop :: .int sod :: .ref mst :: .int sto :: .ref mwd :: .ref msd :: .int sx_ :: .ref mws :: .int sun :: .ref mfr :: .ref mqu :: .ref miw :: .int v_30 :: .int v_31 :: .long sdx :: .ref mim :: .ref mix :: .ref mmd :: []))), (msd, .inl ((cs 0), 133, .inl gsd)), (mfr, .inl ((cs 0), 65536, .inl g_32)), (mqu, .inl ((cs 0), 65536, .inl g_33)), (miw, .inl ((cs 3), 65536, .inl g_34))]) [0, 1, 2, 3, 4] rfl
              have hD9 := hD.sub (ws' := [(m0, .inr (10, (.ref mtp :: .int sta :: .int sru :: .ref msg :: .ref mln :: .ref mcl :: .ref mcs :: .ref mrd :: .int snx :: .int swr :: .int snu :: .int ste :: .int sma :: .int sde :: .int sli :: .ref mop :: .int sod :: .ref mst :: .int sto :: .ref mwd :: .ref msd :: .int sx_ :: .ref mws :: .int sun :: .ref mfr :: .ref mqu :: .ref miw :: .int v_30 :: .int v_31 :: .long sdx :: .ref mim :: .ref mix :: .ref mmd :: []))), (msd, .inl ((cs 0), 133, .inl gsd)), (mfr, .inl ((cs 0), 65536, .inl g_32)), (mqu, .inl ((cs 0), 65536, .inl g_33)), (miw, .inl ((cs 3), 65536, .inl g_34))]) [0, 1, 2, 3, 4] (by decide) rfl
              exact W.iret (v := v_145) hx hb hr (fun t9 ht9 hW9 => ⟨⟨_, (), rfl, trivial, ⟨v_30, v_31, g_32, g_33, g_34, (rp_35.2.1), by rw [ht9]; exact hP9, hD9⟩⟩, hS.F ht9⟩) hS.2.2 dX12_floor_191
            · have r_1129 : Rg 1 1 b := Rg.eq_l c_1127 r_1122 (Rg.c (c := 1) (k := 1) rfl) (by decide)
              refine lv_iload hx hb dX12_floor_184 (lv_at hl 2 rfl) ?_
              refine lv_goto (tgt := 191) hx hb dX12_floor_186 (by decide) ?_
              refine W.widen (k := 0) (n := 0) (Nat.le_of_ble_eq_true rfl) (Nat.le_of_ble_eq_true rfl) ?_
              have hP9 := hP.sub (ws' := [(m0, .inr (10, (.ref mtp :: .int sta :: .int sru :: .ref msg :: .ref mln :: .ref mcl :: .ref mcs :: .ref mrd :: .int snx :: .int swr :: .int snu :: .int ste :: .int sma :: .int sde :: .int sli :: .ref mop :: .int sod :: .ref mst :: .int sto :: .ref mwd :: .ref msd :: .int sx_ :: .ref mws :: .int sun :: .ref mfr :: .ref mqu :: .ref miw :: .int v_30 :: .int v_31 :: .long sdx :: .ref mim :: .ref mix :: .ref mmd :: []))), (msd, .inl ((cs 0), 133, .inl gsd)), (mfr, .inl ((cs 0), 65536, .inl g_32)), (mqu, .inl ((cs 0), 65536, .inl g_33)), (miw, .inl ((cs 3), 65536, .inl g_34))]) [0, 1, 2, 3, 4] rfl
              have hD9 := hD.sub (ws' := [(m0, .inr (10, (.ref mtp :: .int sta :: .int sru :: .ref msg :: .ref mln :: .ref mcl :: .ref mcs :: .ref mrd :: .int snx :: .int swr :: .int snu :: .int ste :: .int sma :: .int sde :: .int sli :: .ref mop :: .int sod :: .ref mst :: .int sto :: .ref mwd :: .ref msd :: .int sx_ :: .ref mws :: .int sun :: .ref mfr :: .ref mqu :: .ref miw :: .int v_30 :: .int v_31 :: .long sdx :: .ref mim :: .ref mix :: .ref mmd :: []))), (msd, .inl ((cs 0), 133, .inl gsd)), (mfr, .inl ((cs 0), 65536, .inl g_32)), (mqu, .inl ((cs 0), 65536, .inl g_33)), (miw, .inl ((cs 3), 65536, .inl g_34))]) [0, 1, 2, 3, 4] (by decide) rfl
              exact W.iret (v := v_146) hx hb hr (fun t9 ht9 hW9 => ⟨⟨_, (), rfl, trivial, ⟨v_30, v_31, g_32, g_33, g_34, (rp_35.2.1), by rw [ht9]; exact hP9, hD9⟩⟩, hS.F ht9⟩) hS.2.2 dX12_floor_191
          · have r_1123 : Rg 0 0 b := Rg.eq_l c_1121 r_23 (Rg.c (c := 0) (k := 0) rfl) (by decide)
            refine lv_iload_n hx hb dX12_floor_175 rfl (lv_at hl 3 rfl) ?_
            refine lv_goto (tgt := 191) hx hb dX12_floor_176 (by decide) ?_
            refine W.widen (k := 0) (n := 0) (Nat.le_of_ble_eq_true rfl) (Nat.le_of_ble_eq_true rfl) ?_
            have hP9 := hP.sub (ws' := [(m0, .inr (10, (.ref mtp :: .int sta :: .int sru :: .ref msg :: .ref mln :: .ref mcl :: .ref mcs :: .ref mrd :: .int snx :: .int swr :: .int snu :: .int ste :: .int sma :: .int sde :: .int sli :: .ref mop :: .int sod :: .ref mst :: .int sto :: .ref mwd :: .ref msd :: .int sx_ :: .ref mws :: .int sun :: .ref mfr :: .ref mqu :: .ref miw :: .int v_30 :: .int v_31 :: .long sdx :: .ref mim :: .ref mix :: .ref mmd :: []))), (msd, .inl ((cs 0), 133, .inl gsd)), (mfr, .inl ((cs 0), 65536, .inl g_32)), (mqu, .inl ((cs 0), 65536, .inl g_33)), (miw, .inl ((cs 3), 65536, .inl g_34))]) [0, 1, 2, 3, 4] rfl
            have hD9 := hD.sub (ws' := [(m0, .inr (10, (.ref mtp :: .int sta :: .int sru :: .ref msg :: .ref mln :: .ref mcl :: .ref mcs :: .ref mrd :: .int snx :: .int swr :: .int snu :: .int ste :: .int sma :: .int sde :: .int sli :: .ref mop :: .int sod :: .ref mst :: .int sto :: .ref mwd :: .ref msd :: .int sx_ :: .ref mws :: .int sun :: .ref mfr :: .ref mqu :: .ref miw :: .int v_30 :: .int v_31 :: .long sdx :: .ref mim :: .ref mix :: .ref mmd :: []))), (msd, .inl ((cs 0), 133, .inl gsd)), (mfr, .inl ((cs 0), 65536, .inl g_32)), (mqu, .inl ((cs 0), 65536, .inl g_33)), (miw, .inl ((cs 3), 65536, .inl g_34))]) [0, 1, 2, 3, 4] (by decide) rfl
            exact W.iret (v := v_147) hx hb hr (fun t9 ht9 hW9 => ⟨⟨_, (), rfl, trivial, ⟨v_30, v_31, g_32, g_33, g_34, (rp_35.2.1), by rw [ht9]; exact hP9, hD9⟩⟩, hS.F ht9⟩) hS.2.2 dX12_floor_191
        · have r_1018 : Rg 0 65535 v_144 := Rg.lt_l (nle_lt c_1016) r_1013 (Rg.c (c := 65536) (k := 65536) rfl) (by decide)
          refine lv_aload_n hx hb dX12_floor_56 rfl (lv_at hl 4 rfl) ?_
          refine va_get (D := D) (ci := 10) (v := .ref mfr) (C := "WrongHoleModel") (T := TX12) (N := 33) hx hb hts (iq_RX12 _) hown hK hP 0 rfl rfl 24 (by decide) (hT _ qq_5_176) (fun _ h9 => h9) rfl dX12_floor_57 ?_
          refine lv_iload hx hb dX12_floor_60 (lv_at hl 0 rfl) ?_
          have hi_1130 : vp_in v_144 65536 := Rg.in r_1018 (by decide)
          refine va_iald hx hb hK hP 2 0 rfl rfl hi_1130 dX12_floor_62 ?_
          refine lv_topi (fun x_1131 e_1132 => ?_)
          have r_1133 : Rg (-1) 6619136 x_1131 := Rg.of e_1132 ((rp_35.1).rg r_1018 (by decide))
          refine w_cut (σ := (Int32) × (Int32) × (Int32)) (fun x9 H locs ls => match x9 with | (v_1182, v_1183, v_1184) => Rg (-1) 6619136 v_1182 ∧ Rg (-1) 2147483647 v_1184 ∧ va_P D vwCl [(m0, .inr (10, (.ref mtp :: .int sta :: .int sru :: .ref msg :: .ref mln :: .ref mcl :: .ref mcs :: .ref mrd :: .int snx :: .int swr :: .int snu :: .int ste :: .int sma :: .int sde :: .int sli :: .ref mop :: .int sod :: .ref mst :: .int sto :: .ref mwd :: .ref msd :: .int sx_ :: .ref mws :: .int sun :: .ref mfr :: .ref mqu :: .ref miw :: .int v_30 :: .int v_31 :: .long sdx :: .ref mim :: .ref mix :: .ref mmd :: []))), (msd, .inl ((cs 0), 133, .inl gsd)), (mfr, .inl ((cs 0), 65536, .inl g_32)), (mqu, .inl ((cs 0), 65536, .inl g_33)), (miw, .inl ((cs 3), 65536, .inl g_34))] H ∧ va_D A [(m0, .inr (10, (.ref mtp :: .int sta :: .int sru :: .ref msg :: .ref mln :: .ref mcl :: .ref mcs :: .ref mrd :: .int snx :: .int swr :: .int snu :: .int ste :: .int sma :: .int sde :: .int sli :: .ref mop :: .int sod :: .ref mst :: .int sto :: .ref mwd :: .ref msd :: .int sx_ :: .ref mws :: .int sun :: .ref mfr :: .ref mqu :: .ref miw :: .int v_30 :: .int v_31 :: .long sdx :: .ref mim :: .ref mix :: .ref mmd :: []))), (msd, .inl ((cs 0), 133, .inl gsd)), (mfr, .inl ((cs 0), 65536, .inl g_32)), (mqu, .inl ((cs 0), 65536, .inl g_33)), (miw, .inl ((cs 3), 65536, .inl g_34))] ∧ va_S A s.heap H locs ∧ lv_has ls 10 [(5, .int v_1182), (4, .int v_1183), (3, .int v_1184), (6, .int v_144), (0, .ref m0), (1, .int a), (2, .int b)]) 165 (fun x9 => match x9 with | (v_1182, v_1183, v_1184) => []) ?_ (fun hj_1185 => ?_)
          · rintro ⟨v_1182, v_1183, v_1184⟩ H locs ls ⟨r_1186, r_1187, hP, hD, hS, hl⟩
            obtain ⟨x_1188, e_1189⟩ : ∃ z : Int32, z = v_144 + Int32.ofInt 1 := ⟨_, rfl⟩
            have r_1190 : Rg 1 65536 x_1188 := Rg.add e_1189 r_1018 (Rg.c (c := Int32.ofInt 1) (k := 1) rfl) (by decide)
            refine lv_iinc (v := x_1188) (lv' := [(6, .int x_1188), (5, .int v_1182), (4, .int v_1183), (3, .int v_1184), (0, .ref m0), (1, .int a), (2, .int b)]) hx hb dX12_floor_165 hl (k := 3) rfl (e_1189.symm) (by decide) rfl (fun ls hl => ?_)
            refine lv_goto (tgt := 49) hx hb dX12_floor_168 (by decide) ?_
            exact ih_1012 (x_1188, v_1182, v_1183, v_1184) _ _ _ ⟨(Rg.wk (lo2 := 0) (hi2 := 65536) r_1190 (by decide)), r_1186, r_1187, hP, hD, hS, lv_sub hl [0, 1, 2, 3, 4, 5, 6] rfl⟩ (ms_up e_1189 r_1018 (Rg.c (c := Int32.ofInt 1) (k := 1) rfl) (by decide))
          · refine lv_if_ge (tgt := 69) hx hb dX12_floor_63 (by decide) (fun c_1134 => ?_) (fun c_1134 => ?_)
            · have r_1135 : Rg 0 6619136 x_1131 := Rg.le_r c_1134 (Rg.c (c := 0) (k := 0) rfl) r_1133 (by decide)
              refine lv_aload_n hx hb dX12_floor_69 rfl (lv_at hl 4 rfl) ?_
              refine lv_iload hx hb dX12_floor_70 (lv_at hl 0 rfl) ?_
              have hPc := va_P.sub (ws' := [(m0, .inr (10, (.ref mtp :: .int sta :: .int sru :: .ref msg :: .ref mln :: .ref mcl :: .ref mcs :: .ref mrd :: .int snx :: .int swr :: .int snu :: .int ste :: .int sma :: .int sde :: .int sli :: .ref mop :: .int sod :: .ref mst :: .int sto :: .ref mwd :: .ref msd :: .int sx_ :: .ref mws :: .int sun :: .ref mfr :: .ref mqu :: .ref miw :: .int v_30 :: .int v_31 :: .long sdx :: .ref mim :: .ref mix :: .ref mmd :: []))), (msd, .inl ((cs 0), 133, .inl gsd))]) hP [0, 1] rfl
              refine cl_P (W.runV (As := [.int v_144]) (rest := []) ⟨hx, hb, hml, hown, hts⟩ (c_M_worthIn l D cs m0 mtp sta sru msg mln mcl mcs mrd snx swr snu ste sma sde sli mop sod mst sto mwd msd sx_ mws sun mfr mqu miw v_30 v_31 sdx mim mix mmd gsd v_144 hsi ((rp_35.1).bk r_1018 (show x_1131 = g_32 (cN v_144) from e_1132) (i_C2 c_1134))) ⟨callB_of 1 hts (gd_C qq_8_26) rfl rfl rfl (hT _ qq_1_9) (hT _ qq_8_23) (by decide +kernel) (rm_R rfl rfl), (hT _ qq_8_25), (hT _ qs_7_5)⟩ (pq_V hPc hK hN (ci := 10) (q0 := 0) rfl rfl) rfl rfl hl.1 rfl (lv_room (Nat.le_of_ble_eq_true rfl)) dX12_floor_72 ⟨Nat.le_of_ble_eq_true rfl, Nat.le_of_ble_eq_true rfl⟩) (fun v9 hz_1192 => ?_)
              obtain ⟨x_1191, rfl⟩ := hz_1192
              refine lv_istore (lv' := [(7, .int x_1191), (6, .int v_144), (5, .int v_145), (4, .int v_146), (3, .int v_147), (0, .ref m0), (1, .int a), (2, .int b)]) hx hb dX12_floor_75 hl (by decide) rfl (fun ls hl => ?_)
              refine lv_iload hx hb dX12_floor_77 (lv_at hl 0 rfl) ?_
              refine lv_iload_n hx hb dX12_floor_79 rfl (lv_at hl 4 rfl) ?_
              refine lv_icmp_ge (tgt := 86) hx hb dX12_floor_80 (by decide) (fun c_1194 => ?_) (fun c_1194 => ?_)
              · have r_1195 : Rg (-1) 2147483647 x_1191 := Rg.le_r c_1194 r_1015 (Rg.top x_1191) (by decide)
                refine lv_aload_n hx hb dX12_floor_86 rfl (lv_at hl 5 rfl) ?_
                refine lv_iload hx hb dX12_floor_87 (lv_at hl 1 rfl) ?_
                refine lv_aload_n hx hb dX12_floor_89 rfl (lv_at hl 5 rfl) ?_
                refine va_get (D := D) (ci := 10) (v := .ref msd) (C := "WrongHoleModel") (T := TX12) (N := 33) hx hb hts (iq_RX12 _) hown hK hP 0 rfl rfl 20 (by decide) (hT _ qq_5_172) (fun _ h9 => h9) rfl dX12_floor_90 ?_
                refine lv_iconst (v := 3) hx hb dX12_floor_93 (by decide) ?_
                have hi_1197 : vp_in 3 133 := vi_c rfl
                refine va_iald hx hb hK hP 1 0 rfl rfl hi_1197 dX12_floor_94 ?_
                refine lv_topi (fun x_1198 e_1199 => ?_)
                have r_1200 : Rg 0 9999 x_1198 := Rg.of e_1199 (hsi.a3)
                refine lv_iload_n hx hb dX12_floor_95 rfl (lv_at hl 6 rfl) ?_
                refine lv_iadd hx hb dX12_floor_96 ?_
                refine lv_topi (fun x_1201 e_1202 => ?_)
                have r_1203 : Rg 0 10299 x_1201 := Rg.add e_1202 r_1200 r_15 (by decide)
                have hPc := va_P.sub (ws' := [(m0, .inr (10, (.ref mtp :: .int sta :: .int sru :: .ref msg :: .ref mln :: .ref mcl :: .ref mcs :: .ref mrd :: .int snx :: .int swr :: .int snu :: .int ste :: .int sma :: .int sde :: .int sli :: .ref mop :: .int sod :: .ref mst :: .int sto :: .ref mwd :: .ref msd :: .int sx_ :: .ref mws :: .int sun :: .ref mfr :: .ref mqu :: .ref miw :: .int v_30 :: .int v_31 :: .long sdx :: .ref mim :: .ref mix :: .ref mmd :: []))), (msd, .inl ((cs 0), 133, .inl gsd))]) hP [0, 1] rfl
                refine cl_P (W.runV (As := [.int v_144, .int x_1201]) (rest := []) ⟨hx, hb, hml, hown, hts⟩ (c_M_shownIn l D cs m0 mtp sta sru msg mln mcl mcs mrd snx swr snu ste sma sde sli mop sod mst sto mwd msd sx_ mws sun mfr mqu miw v_30 v_31 sdx mim mix mmd gsd v_144 x_1201 hsi ((rp_35.1).bk r_1018 (show x_1131 = g_32 (cN v_144) from e_1132) (i_C2 c_1134))) ⟨callB_of 2 hts (gd_C qq_7_106) rfl rfl rfl (hT _ qq_1_9) (hT _ qq_7_103) (by decide +kernel) (rm_R rfl rfl), (hT _ qq_7_105), (hT _ qs_5_11)⟩ (pq_V hPc hK hN (ci := 10) (q0 := 0) rfl rfl) rfl rfl hl.1 rfl (lv_room (Nat.le_of_ble_eq_true rfl)) dX12_floor_97 ⟨Nat.le_of_ble_eq_true rfl, Nat.le_of_ble_eq_true rfl⟩) (fun v9 hz_1205 => ?_)
                obtain ⟨x_1204, rfl⟩ := hz_1205
                refine lv_istore (lv' := [(8, .int x_1204), (7, .int x_1191), (6, .int v_144), (5, .int v_145), (4, .int v_146), (3, .int v_147), (0, .ref m0), (1, .int a), (2, .int b)]) hx hb dX12_floor_100 hl (by decide) rfl (fun ls hl => ?_)
                refine lv_iload hx hb dX12_floor_102 (lv_at hl 1 rfl) ?_
                refine lv_iload_n hx hb dX12_floor_104 rfl (lv_at hl 5 rfl) ?_
                refine w_cut (σ := (Int32)) (fun (v_1220 : Int32) H locs ls => Rg 0 1 v_1220 ∧ va_P D vwCl [(m0, .inr (10, (.ref mtp :: .int sta :: .int sru :: .ref msg :: .ref mln :: .ref mcl :: .ref mcs :: .ref mrd :: .int snx :: .int swr :: .int snu :: .int ste :: .int sma :: .int sde :: .int sli :: .ref mop :: .int sod :: .ref mst :: .int sto :: .ref mwd :: .ref msd :: .int sx_ :: .ref mws :: .int sun :: .ref mfr :: .ref mqu :: .ref miw :: .int v_30 :: .int v_31 :: .long sdx :: .ref mim :: .ref mix :: .ref mmd :: []))), (msd, .inl ((cs 0), 133, .inl gsd)), (mfr, .inl ((cs 0), 65536, .inl g_32)), (mqu, .inl ((cs 0), 65536, .inl g_33)), (miw, .inl ((cs 3), 65536, .inl g_34))] H ∧ va_D A [(m0, .inr (10, (.ref mtp :: .int sta :: .int sru :: .ref msg :: .ref mln :: .ref mcl :: .ref mcs :: .ref mrd :: .int snx :: .int swr :: .int snu :: .int ste :: .int sma :: .int sde :: .int sli :: .ref mop :: .int sod :: .ref mst :: .int sto :: .ref mwd :: .ref msd :: .int sx_ :: .ref mws :: .int sun :: .ref mfr :: .ref mqu :: .ref miw :: .int v_30 :: .int v_31 :: .long sdx :: .ref mim :: .ref mix :: .ref mmd :: []))), (msd, .inl ((cs 0), 133, .inl gsd)), (mfr, .inl ((cs 0), 65536, .inl g_32)), (mqu, .inl ((cs 0), 65536, .inl g_33)), (miw, .inl ((cs 3), 65536, .inl g_34))] ∧ va_S A s.heap H locs ∧ lv_has ls 10 [(8, .int x_1204), (7, .int x_1191), (6, .int v_144), (5, .int v_145), (4, .int v_146), (3, .int v_147), (0, .ref m0), (1, .int a), (2, .int b)]) 139 (fun (v_1220 : Int32) => [.int v_1220]) ?_ (fun hj_1221 => ?_)
                · rintro v_1220 H locs ls ⟨r_1222, hP, hD, hS, hl⟩
                  refine lv_istore (lv' := [(9, .int v_1220), (8, .int x_1204), (7, .int x_1191), (6, .int v_144), (5, .int v_145), (4, .int v_146), (3, .int v_147), (0, .ref m0), (1, .int a), (2, .int b)]) hx hb dX12_floor_139 hl (by decide) rfl (fun ls hl => ?_)
                  refine lv_iload hx hb dX12_floor_141 (lv_at hl 0 rfl) ?_
                  refine lv_if_ne (tgt := 149) hx hb dX12_floor_143 (by decide) (fun c_1223 => ?_) (fun c_1223 => ?_)
                  · have r_1224 : Rg 1 1 v_1220 := Rg.ne c_1223 r_1222 (Rg.c (c := 0) (k := 0) rfl) (by decide)
                    refine lv_iload hx hb dX12_floor_149 (lv_at hl 2 rfl) ?_
                    refine lv_istore_n (lv' := [(3, .int x_1191), (9, .int v_1220), (8, .int x_1204), (7, .int x_1191), (6, .int v_144), (5, .int v_145), (4, .int v_146), (0, .ref m0), (1, .int a), (2, .int b)]) hx hb dX12_floor_151 rfl hl (by decide) rfl (fun ls hl => ?_)
                    refine lv_iload hx hb dX12_floor_152 (lv_at hl 2 rfl) ?_
                    refine lv_istore (lv' := [(4, .int x_1204), (3, .int x_1191), (9, .int v_1220), (8, .int x_1204), (7, .int x_1191), (6, .int v_144), (5, .int v_145), (0, .ref m0), (1, .int a), (2, .int b)]) hx hb dX12_floor_154 hl (by decide) rfl (fun ls hl => ?_)
                    refine lv_aload_n hx hb dX12_floor_156 rfl (lv_at hl 7 rfl) ?_
                    refine va_get (D := D) (ci := 10) (v := .ref mfr) (C := "WrongHoleModel") (T := TX12) (N := 33) hx hb hts (iq_RX12 _) hown hK hP 0 rfl rfl 24 (by decide) (hT _ qq_5_176) (fun _ h9 => h9) rfl dX12_floor_157 ?_
                    refine lv_iload hx hb dX12_floor_160 (lv_at hl 5 rfl) ?_
                    have hi_1226 : vp_in v_144 65536 := Rg.in r_1018 (by decide)
                    refine va_iald hx hb hK hP 2 0 rfl rfl hi_1226 dX12_floor_162 ?_
                    refine lv_topi (fun x_1227 e_1228 => ?_)
                    have r_1229 : Rg (-1) 6619136 x_1227 := Rg.of e_1228 ((rp_35.1).rg r_1018 (by decide))
                    refine lv_istore (lv' := [(5, .int x_1227), (4, .int x_1204), (3, .int x_1191), (9, .int v_1220), (8, .int x_1204), (7, .int x_1191), (6, .int v_144), (0, .ref m0), (1, .int a), (2, .int b)]) hx hb dX12_floor_163 hl (by decide) rfl (fun ls hl => ?_)
                    exact hj_1185 (x_1227, x_1204, x_1191) _ _ _ ⟨r_1229, r_1195, hP, hD, hS, lv_sub hl [0, 1, 2, 6, 7, 8, 9] rfl⟩
                  · have r_1225 : Rg 0 0 v_1220 := Rg.eq_l c_1223 r_1222 (Rg.c (c := 0) (k := 0) rfl) (by decide)
                    refine lv_goto (tgt := 165) hx hb dX12_floor_146 (by decide) ?_
                    exact hj_1185 (v_145, v_146, v_147) _ _ _ ⟨r_1014, r_1015, hP, hD, hS, lv_sub hl [4, 5, 6, 3, 7, 8, 9] rfl⟩
                · refine lv_icmp_gt (tgt := 134) hx hb dX12_floor_105 (by decide) (fun c_1207 => ?_) (fun c_1207 => ?_)
                  · have r_1208 : Rg (-1) 2147483646 v_147 := Rg.lt_l c_1207 r_1015 r_1195 (by decide)
                    have r_1209 : Rg 0 2147483647 x_1191 := Rg.lt_r c_1207 r_1015 r_1195 (by decide)
                    refine lv_iconst (v := 1) hx hb dX12_floor_134 (by decide) ?_
                    refine lv_goto (tgt := 139) hx hb dX12_floor_135 (by decide) ?_
                    exact hj_1221 1 _ _ _ ⟨(Rg.wk (lo2 := 0) (hi2 := 1) (Rg.c (c := 1) (k := 1) rfl) (by decide)), hP, hD, hS, lv_sub hl [0, 1, 2, 3, 4, 5, 6, 7, 8] rfl⟩
                  · refine lv_iload hx hb dX12_floor_108 (lv_at hl 0 rfl) ?_
                    refine lv_iload hx hb dX12_floor_110 (lv_at hl 4 rfl) ?_
                    refine lv_icmp_lt (tgt := 134) hx hb dX12_floor_112 (by decide) (fun c_1230 => ?_) (fun c_1230 => ?_)
                    · have r_1231 : Rg (-2147483648) 2147483646 x_1204 := Rg.lt_l c_1230 (Rg.top x_1204) (Rg.top v_146) (by decide)
                      have r_1232 : Rg (-2147483647) 2147483647 v_146 := Rg.lt_r c_1230 (Rg.top x_1204) (Rg.top v_146) (by decide)
                      refine lv_iconst (v := 1) hx hb dX12_floor_134 (by decide) ?_
                      refine lv_goto (tgt := 139) hx hb dX12_floor_135 (by decide) ?_
                      exact hj_1221 1 _ _ _ ⟨(Rg.wk (lo2 := 0) (hi2 := 1) (Rg.c (c := 1) (k := 1) rfl) (by decide)), hP, hD, hS, lv_sub hl [0, 1, 2, 3, 4, 5, 6, 7, 8] rfl⟩
                    · refine lv_iload hx hb dX12_floor_115 (lv_at hl 0 rfl) ?_
                      refine lv_iload hx hb dX12_floor_117 (lv_at hl 4 rfl) ?_
                      refine lv_icmp_ne (tgt := 138) hx hb dX12_floor_119 (by decide) (fun c_1233 => ?_) (fun c_1233 => ?_)
                      · refine lv_iconst (v := 0) hx hb dX12_floor_138 (by decide) ?_
                        exact hj_1221 0 _ _ _ ⟨(Rg.wk (lo2 := 0) (hi2 := 1) (Rg.c (c := 0) (k := 0) rfl) (by decide)), hP, hD, hS, lv_sub hl [0, 1, 2, 3, 4, 5, 6, 7, 8] rfl⟩
                      · refine lv_aload_n hx hb dX12_floor_122 rfl (lv_at hl 6 rfl) ?_
                        refine va_get (D := D) (ci := 10) (v := .ref mfr) (C := "WrongHoleModel") (T := TX12) (N := 33) hx hb hts (iq_RX12 _) hown hK hP 0 rfl rfl 24 (by decide) (hT _ qq_5_176) (fun _ h9 => h9) rfl dX12_floor_123 ?_
                        refine lv_iload hx hb dX12_floor_126 (lv_at hl 2 rfl) ?_
                        have hi_1234 : vp_in v_144 65536 := Rg.in r_1018 (by decide)
                        refine va_iald hx hb hK hP 2 0 rfl rfl hi_1234 dX12_floor_128 ?_
                        refine lv_topi (fun x_1235 e_1236 => ?_)
                        have r_1237 : Rg (-1) 6619136 x_1235 := Rg.of e_1236 ((rp_35.1).rg r_1018 (by decide))
                        refine lv_iload hx hb dX12_floor_129 (lv_at hl 3 rfl) ?_
                        refine lv_icmp_ge (tgt := 138) hx hb dX12_floor_131 (by decide) (fun c_1238 => ?_) (fun c_1238 => ?_)
                        · refine lv_iconst (v := 0) hx hb dX12_floor_138 (by decide) ?_
                          exact hj_1221 0 _ _ _ ⟨(Rg.wk (lo2 := 0) (hi2 := 1) (Rg.c (c := 0) (k := 0) rfl) (by decide)), hP, hD, hS, lv_sub hl [0, 1, 2, 3, 4, 5, 6, 7, 8] rfl⟩
                        · have r_1239 : Rg (-1) 6619135 x_1235 := Rg.lt_l (nle_lt c_1238) r_1237 r_1014 (by decide)
                          have r_1240 : Rg 0 6619136 v_145 := Rg.lt_r (nle_lt c_1238) r_1237 r_1014 (by decide)
                          refine lv_iconst (v := 1) hx hb dX12_floor_134 (by decide) ?_
                          refine lv_goto (tgt := 139) hx hb dX12_floor_135 (by decide) ?_
                          exact hj_1221 1 _ _ _ ⟨(Rg.wk (lo2 := 0) (hi2 := 1) (Rg.c (c := 1) (k := 1) rfl) (by decide)), hP, hD, hS, lv_sub hl [0, 1, 2, 3, 4, 5, 6, 7, 8] rfl⟩
              · have r_1196 : Rg (-2147483648) 2147483646 x_1191 := Rg.lt_l (nle_lt c_1194) (Rg.top x_1191) r_1015 (by decide)
                refine lv_goto (tgt := 165) hx hb dX12_floor_83 (by decide) ?_
                exact hj_1185 (v_145, v_146, v_147) _ _ _ ⟨r_1014, r_1015, hP, hD, hS, lv_sub hl [2, 3, 4, 1, 5, 6, 7] rfl⟩
            · have r_1136 : Rg (-1) (-1) x_1131 := Rg.lt_l (nle_lt c_1134) r_1133 (Rg.c (c := 0) (k := 0) rfl) (by decide)
              refine lv_goto (tgt := 165) hx hb dX12_floor_66 (by decide) ?_
              exact hj_1185 (v_145, v_146, v_147) _ _ _ ⟨r_1014, r_1015, hP, hD, hS, lv_sub hl [1, 2, 3, 0, 4, 5, 6] rfl⟩
      · have r_24 : Rg 0 0 x_18 := Rg.eq_l c_21 r_20.1 (Rg.c (c := 0) (k := 0) rfl) (by decide)
        refine lv_iconst (v := (-1)) hx hb dX12_floor_31 (by decide) ?_
        refine W.widen (k := 0) (n := 0) (Nat.le_of_ble_eq_true rfl) (Nat.le_of_ble_eq_true rfl) ?_
        have hP9 := hP.sub (ws' := [(m0, .inr (10, (.ref mtp :: .int sta :: .int sru :: .ref msg :: .ref mln :: .ref mcl :: .ref mcs :: .ref mrd :: .int snx :: .int swr :: .int snu :: .int ste :: .int sma :: .int sde :: .int sli :: .ref mop :: .int sod :: .ref mst :: .int sto :: .ref mwd :: .ref msd :: .int sx_ :: .ref mws :: .int sun :: .ref mfr :: .ref mqu :: .ref miw :: .int sfi :: .int swa :: .long sdx :: .ref mim :: .ref mix :: .ref mmd :: []))), (msd, .inl ((cs 0), 133, .inl gsd)), (mfr, .inl ((cs 0), 65536, .inl gfr)), (mqu, .inl ((cs 0), 65536, .inl gqu)), (miw, .inl ((cs 3), 65536, .inl giw))]) [0, 1, 2, 3, 4] rfl
        have hD9 := hD.sub (ws' := [(m0, .inr (10, (.ref mtp :: .int sta :: .int sru :: .ref msg :: .ref mln :: .ref mcl :: .ref mcs :: .ref mrd :: .int snx :: .int swr :: .int snu :: .int ste :: .int sma :: .int sde :: .int sli :: .ref mop :: .int sod :: .ref mst :: .int sto :: .ref mwd :: .ref msd :: .int sx_ :: .ref mws :: .int sun :: .ref mfr :: .ref mqu :: .ref miw :: .int sfi :: .int swa :: .long sdx :: .ref mim :: .ref mix :: .ref mmd :: []))), (msd, .inl ((cs 0), 133, .inl gsd)), (mfr, .inl ((cs 0), 65536, .inl gfr)), (mqu, .inl ((cs 0), 65536, .inl gqu)), (miw, .inl ((cs 3), 65536, .inl giw))]) [0, 1, 2, 3, 4] (by decide) rfl
        exact W.iret (v := (-1)) hx hb hr (fun t9 ht9 hW9 => ⟨⟨_, (), rfl, trivial, ⟨sfi, swa, gfr, gqu, giw, hqb, by rw [ht9]; exact hP9, hD9⟩⟩, hS.F ht9⟩) hS.2.2 dX12_floor_32
