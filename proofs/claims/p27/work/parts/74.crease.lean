theorem dX12_crease_0 : decode cX12_crease 0 = .ok (.iload_n 1, 1) := by decide +kernel
theorem dX12_crease_1 : decode cX12_crease 1 = .ok (.iconst (-1), 1) := by decide +kernel
theorem dX12_crease_2 : decode cX12_crease 2 = .ok (.if_icmp .ne 14, 3) := by decide +kernel
theorem dX12_crease_16 : decode cX12_crease 16 = .ok (.iload_n 1, 1) := by decide +kernel
theorem dX12_crease_17 : decode cX12_crease 17 = .ok (.ifCond .eq 8, 3) := by decide +kernel
theorem dX12_crease_25 : decode cX12_crease 25 = .ok (.iconst 1, 1) := by decide +kernel
theorem dX12_crease_26 : decode cX12_crease 26 = .ok (.goto 4, 3) := by decide +kernel
theorem dX12_crease_30 : decode cX12_crease 30 = .ok (.istore 4, 2) := by decide +kernel
theorem dX12_crease_32 : decode cX12_crease 32 = .ok (.iload_n 1, 1) := by decide +kernel
theorem dX12_crease_33 : decode cX12_crease 33 = .ok (.iconst 2, 1) := by decide +kernel
theorem dX12_crease_34 : decode cX12_crease 34 = .ok (.if_icmp .eq 8, 3) := by decide +kernel
theorem dX12_crease_37 : decode cX12_crease 37 = .ok (.iload_n 1, 1) := by decide +kernel
theorem dX12_crease_38 : decode cX12_crease 38 = .ok (.iconst 3, 1) := by decide +kernel
theorem dX12_crease_39 : decode cX12_crease 39 = .ok (.if_icmp .ne 7, 3) := by decide +kernel
theorem dX12_crease_46 : decode cX12_crease 46 = .ok (.iconst 0, 1) := by decide +kernel
theorem dX12_crease_47 : decode cX12_crease 47 = .ok (.istore 5, 2) := by decide +kernel
theorem dX12_crease_49 : decode cX12_crease 49 = .ok (.iload_n 1, 1) := by decide +kernel
theorem dX12_crease_50 : decode cX12_crease 50 = .ok (.i2l, 1) := by decide +kernel
theorem dX12_crease_51 : decode cX12_crease 51 = .ok (.lconst 0, 1) := by decide +kernel
theorem dX12_crease_52 : decode cX12_crease 52 = .ok (.ldc2_w 400, 3) := by decide +kernel
theorem dX12_crease_55 : decode cX12_crease 55 = .ok (.invokestatic 104, 3) := by decide +kernel
theorem dX12_crease_58 : decode cX12_crease 58 = .ok (.ifCond .eq 50, 3) := by decide +kernel
theorem dX12_crease_108 : decode cX12_crease 108 = .ok (.bipush (-2), 2) := by decide +kernel
theorem dX12_crease_110 : decode cX12_crease 110 = .ok (.ireturn, 1) := by decide +kernel
theorem dX12_crease_61 : decode cX12_crease 61 = .ok (.aload_n 0, 1) := by decide +kernel
theorem dX12_crease_62 : decode cX12_crease 62 = .ok (.iload_n 2, 1) := by decide +kernel
theorem dX12_crease_63 : decode cX12_crease 63 = .ok (.invokevirtual 365, 3) := by decide +kernel
theorem dX12_crease_66 : decode cX12_crease 66 = .ok (.ifCond .eq 42, 3) := by decide +kernel
theorem dX12_crease_69 : decode cX12_crease 69 = .ok (.aload_n 0, 1) := by decide +kernel
theorem dX12_crease_70 : decode cX12_crease 70 = .ok (.iload_n 3, 1) := by decide +kernel
theorem dX12_crease_71 : decode cX12_crease 71 = .ok (.invokevirtual 371, 3) := by decide +kernel
theorem dX12_crease_74 : decode cX12_crease 74 = .ok (.ifCond .eq 34, 3) := by decide +kernel
theorem dX12_crease_77 : decode cX12_crease 77 = .ok (.iload 4, 2) := by decide +kernel
theorem dX12_crease_79 : decode cX12_crease 79 = .ok (.ifCond .eq 7, 3) := by decide +kernel
theorem dX12_crease_82 : decode cX12_crease 82 = .ok (.iload_n 3, 1) := by decide +kernel
theorem dX12_crease_83 : decode cX12_crease 83 = .ok (.ifCond .ne 25, 3) := by decide +kernel
theorem dX12_crease_86 : decode cX12_crease 86 = .ok (.iload 5, 2) := by decide +kernel
theorem dX12_crease_88 : decode cX12_crease 88 = .ok (.ifCond .eq 7, 3) := by decide +kernel
theorem dX12_crease_95 : decode cX12_crease 95 = .ok (.aload_n 0, 1) := by decide +kernel
theorem dX12_crease_96 : decode cX12_crease 96 = .ok (.getfield 39, 3) := by decide +kernel
theorem dX12_crease_99 : decode cX12_crease 99 = .ok (.sipush 132, 3) := by decide +kernel
theorem dX12_crease_102 : decode cX12_crease 102 = .ok (.iaload, 1) := by decide +kernel
theorem dX12_crease_103 : decode cX12_crease 103 = .ok (.bipush 10, 2) := by decide +kernel
theorem dX12_crease_105 : decode cX12_crease 105 = .ok (.if_icmp .ne 6, 3) := by decide +kernel
theorem dX12_crease_111 : decode cX12_crease 111 = .ok (.bipush 102, 2) := by decide +kernel
theorem dX12_crease_113 : decode cX12_crease 113 = .ok (.iconst 3, 1) := by decide +kernel
theorem dX12_crease_114 : decode cX12_crease 114 = .ok (.aload_n 0, 1) := by decide +kernel
theorem dX12_crease_115 : decode cX12_crease 115 = .ok (.getfield 39, 3) := by decide +kernel
theorem dX12_crease_118 : decode cX12_crease 118 = .ok (.sipush 132, 3) := by decide +kernel
theorem dX12_crease_121 : decode cX12_crease 121 = .ok (.iaload, 1) := by decide +kernel
theorem dX12_crease_122 : decode cX12_crease 122 = .ok (.imul, 1) := by decide +kernel
theorem dX12_crease_123 : decode cX12_crease 123 = .ok (.iadd, 1) := by decide +kernel
theorem dX12_crease_124 : decode cX12_crease 124 = .ok (.istore 6, 2) := by decide +kernel
theorem dX12_crease_126 : decode cX12_crease 126 = .ok (.aload_n 0, 1) := by decide +kernel
theorem dX12_crease_127 : decode cX12_crease 127 = .ok (.getfield 39, 3) := by decide +kernel
theorem dX12_crease_130 : decode cX12_crease 130 = .ok (.iload 6, 2) := by decide +kernel
theorem dX12_crease_132 : decode cX12_crease 132 = .ok (.iload_n 1, 1) := by decide +kernel
theorem dX12_crease_133 : decode cX12_crease 133 = .ok (.iastore, 1) := by decide +kernel
theorem dX12_crease_134 : decode cX12_crease 134 = .ok (.aload_n 0, 1) := by decide +kernel
theorem dX12_crease_135 : decode cX12_crease 135 = .ok (.getfield 39, 3) := by decide +kernel
theorem dX12_crease_138 : decode cX12_crease 138 = .ok (.iload 6, 2) := by decide +kernel
theorem dX12_crease_140 : decode cX12_crease 140 = .ok (.iconst 1, 1) := by decide +kernel
theorem dX12_crease_141 : decode cX12_crease 141 = .ok (.iadd, 1) := by decide +kernel
theorem dX12_crease_142 : decode cX12_crease 142 = .ok (.iload_n 2, 1) := by decide +kernel
theorem dX12_crease_143 : decode cX12_crease 143 = .ok (.iastore, 1) := by decide +kernel
theorem dX12_crease_144 : decode cX12_crease 144 = .ok (.aload_n 0, 1) := by decide +kernel
theorem dX12_crease_145 : decode cX12_crease 145 = .ok (.getfield 39, 3) := by decide +kernel
theorem dX12_crease_148 : decode cX12_crease 148 = .ok (.iload 6, 2) := by decide +kernel
theorem dX12_crease_150 : decode cX12_crease 150 = .ok (.iconst 2, 1) := by decide +kernel
theorem dX12_crease_151 : decode cX12_crease 151 = .ok (.iadd, 1) := by decide +kernel
theorem dX12_crease_152 : decode cX12_crease 152 = .ok (.iload_n 3, 1) := by decide +kernel
theorem dX12_crease_153 : decode cX12_crease 153 = .ok (.iastore, 1) := by decide +kernel
theorem dX12_crease_154 : decode cX12_crease 154 = .ok (.aload_n 0, 1) := by decide +kernel
theorem dX12_crease_155 : decode cX12_crease 155 = .ok (.getfield 39, 3) := by decide +kernel
theorem dX12_crease_158 : decode cX12_crease 158 = .ok (.sipush 132, 3) := by decide +kernel
theorem dX12_crease_161 : decode cX12_crease 161 = .ok (.dup2, 1) := by decide +kernel
theorem dX12_crease_162 : decode cX12_crease 162 = .ok (.iaload, 1) := by decide +kernel
theorem dX12_crease_163 : decode cX12_crease 163 = .ok (.iconst 1, 1) := by decide +kernel
theorem dX12_crease_164 : decode cX12_crease 164 = .ok (.iadd, 1) := by decide +kernel
theorem dX12_crease_165 : decode cX12_crease 165 = .ok (.iastore, 1) := by decide +kernel
theorem dX12_crease_166 : decode cX12_crease 166 = .ok (.aload_n 0, 1) := by decide +kernel
theorem dX12_crease_167 : decode cX12_crease 167 = .ok (.getfield 39, 3) := by decide +kernel
theorem dX12_crease_170 : decode cX12_crease 170 = .ok (.sipush 132, 3) := by decide +kernel
theorem dX12_crease_173 : decode cX12_crease 173 = .ok (.iaload, 1) := by decide +kernel
theorem dX12_crease_174 : decode cX12_crease 174 = .ok (.ireturn, 1) := by decide +kernel
theorem dX12_crease_20 : decode cX12_crease 20 = .ok (.iload_n 1, 1) := by decide +kernel
theorem dX12_crease_21 : decode cX12_crease 21 = .ok (.iconst 1, 1) := by decide +kernel
theorem dX12_crease_22 : decode cX12_crease 22 = .ok (.if_icmp .ne 7, 3) := by decide +kernel
theorem dX12_crease_29 : decode cX12_crease 29 = .ok (.iconst 0, 1) := by decide +kernel
theorem dX12_crease_42 : decode cX12_crease 42 = .ok (.iconst 1, 1) := by decide +kernel
theorem dX12_crease_43 : decode cX12_crease 43 = .ok (.goto 4, 3) := by decide +kernel
theorem dX12_crease_91 : decode cX12_crease 91 = .ok (.iload_n 2, 1) := by decide +kernel
theorem dX12_crease_92 : decode cX12_crease 92 = .ok (.ifCond .ne 16, 3) := by decide +kernel
theorem dX12_crease_5 : decode cX12_crease 5 = .ok (.aload_n 0, 1) := by decide +kernel
theorem dX12_crease_6 : decode cX12_crease 6 = .ok (.getfield 39, 3) := by decide +kernel
theorem dX12_crease_9 : decode cX12_crease 9 = .ok (.sipush 132, 3) := by decide +kernel
theorem dX12_crease_12 : decode cX12_crease 12 = .ok (.iconst 0, 1) := by decide +kernel
theorem dX12_crease_13 : decode cX12_crease 13 = .ok (.iastore, 1) := by decide +kernel
theorem dX12_crease_14 : decode cX12_crease 14 = .ok (.iconst 0, 1) := by decide +kernel
theorem dX12_crease_15 : decode cX12_crease 15 = .ok (.ireturn, 1) := by decide +kernel
set_option maxHeartbeats 4000000 in
set_option maxRecDepth 100000 in
theorem c_M_crease (l : Launch) (D : va_G) (cs : Nat → ClassId) (X : XX) (sz : Nat) (m0 : Nat) (mtp : Nat) (sta : Int32) (sru : Int32) (msg : Nat) (mln : Nat) (mcl : Nat) (mcs : Nat) (mrd : Nat) (snx : Int32) (swr : Int32) (snu : Int32) (ste : Int32) (sma : Int32) (sde : Int32) (sli : Int32) (mop : Nat) (sod : Int32) (mst : Nat) (sto : Int32) (mwd : Nat) (msd : Nat) (sx_ : Int32) (mws : Nat) (sun : Int32) (mfr : Nat) (mqu : Nat) (miw : Nat) (sfi : Int32) (swa : Int32) (sdx : Int64) (mim : Nat) (mix : Nat) (mmd : Nat) (gsd : Nat → Int32) (a : Int32) (b : Int32) (h : Int32) (hsi : SI gsd) : Met l yX12_crease (Cond.code yX12_crease cX12_crease 7 (some .int) :: TB) (RM 1 0 0) (va_Pc [.ref m0, .int a, .int b, .int h] (PRE D cs X [(m0, .inr (10, (.ref mtp :: .int sta :: .int sru :: .ref msg :: .ref mln :: .ref mcl :: .ref mcs :: .ref mrd :: .int snx :: .int swr :: .int snu :: .int ste :: .int sma :: .int sde :: .int sli :: .ref mop :: .int sod :: .ref mst :: .int sto :: .ref mwd :: .ref msd :: .int sx_ :: .ref mws :: .int sun :: .ref mfr :: .ref mqu :: .ref miw :: .int sfi :: .int swa :: .long sdx :: .ref mim :: .ref mix :: .ref mmd :: []))), (msd, .inl ((cs 0), 133, .inl gsd))] [] sz)) (va_Qi (S := Unit) (fun r _ => True) (fun _ t => ∃ (gsd2 : Nat → Int32), (SI gsd2) ∧ (gsd2 0 = gsd 0) ∧ va_P D vwCl [(m0, .inr (10, (.ref mtp :: .int sta :: .int sru :: .ref msg :: .ref mln :: .ref mcl :: .ref mcs :: .ref mrd :: .int snx :: .int swr :: .int snu :: .int ste :: .int sma :: .int sde :: .int sli :: .ref mop :: .int sod :: .ref mst :: .int sto :: .ref mwd :: .ref msd :: .int sx_ :: .ref mws :: .int sun :: .ref mfr :: .ref mqu :: .ref miw :: .int sfi :: .int swa :: .long sdx :: .ref mim :: .ref mix :: .ref mmd :: []))), (msd, .inl ((cs 0), 133, .inl gsd2))] t.heap ∧ va_D (va_A [(m0, .inr (10, (.ref mtp :: .int sta :: .int sru :: .ref msg :: .ref mln :: .ref mcl :: .ref mcs :: .ref mrd :: .int snx :: .int swr :: .int snu :: .int ste :: .int sma :: .int sde :: .int sli :: .ref mop :: .int sod :: .ref mst :: .int sto :: .ref mwd :: .ref msd :: .int sx_ :: .ref mws :: .int sun :: .ref mfr :: .ref mqu :: .ref miw :: .int sfi :: .int swa :: .long sdx :: .ref mim :: .ref mix :: .ref mmd :: []))), (msd, .inl ((cs 0), 133, .inl gsd))] sz) [(m0, .inr (10, (.ref mtp :: .int sta :: .int sru :: .ref msg :: .ref mln :: .ref mcl :: .ref mcs :: .ref mrd :: .int snx :: .int swr :: .int snu :: .int ste :: .int sma :: .int sde :: .int sli :: .ref mop :: .int sod :: .ref mst :: .int sto :: .ref mwd :: .ref msd :: .int sx_ :: .ref mws :: .int sun :: .ref mfr :: .ref mqu :: .ref miw :: .int sfi :: .int swa :: .long sdx :: .ref mim :: .ref mix :: .ref mmd :: []))), (msd, .inl ((cs 0), 133, .inl gsd2))]) (va_A [(m0, .inr (10, (.ref mtp :: .int sta :: .int sru :: .ref msg :: .ref mln :: .ref mcl :: .ref mcs :: .ref mrd :: .int snx :: .int swr :: .int snu :: .int ste :: .int sma :: .int sde :: .int sli :: .ref mop :: .int sod :: .ref mst :: .int sto :: .ref mwd :: .ref msd :: .int sx_ :: .ref mws :: .int sun :: .ref mfr :: .ref mqu :: .ref miw :: .int sfi :: .int swa :: .long sdx :: .ref mim :: .ref mix :: .ref mmd :: []))), (msd, .inl ((cs 0), 133, .inl gsd))] sz)) 0 0 (va_A [(m0, .inr (10, (.ref mtp :: .int sta :: .int sru :: .ref msg :: .ref mln :: .ref mcl :: .ref mcs :: .ref mrd :: .int snx :: .int swr :: .int snu :: .int ste :: .int sma :: .int sde :: .int sli :: .ref mop :: .int sod :: .ref mst :: .int sto :: .ref mwd :: .ref msd :: .int sx_ :: .ref mws :: .int sun :: .ref mfr :: .ref mqu :: .ref miw :: .int sfi :: .int swa :: .long sdx :: .ref mim :: .ref mix :: .ref mmd :: []))), (msd, .inl ((cs 0), 133, .inl gsd))] sz) := by
  refine MET (y := yX12_crease) (cc := cX12_crease) (maxL := 7) (ret := (some .int)) (d := 1) (mc := 0) (ms := 0) (D := D) (cs := cs) (X := X) (ws := [(m0, .inr (10, (.ref mtp :: .int sta :: .int sru :: .ref msg :: .ref mln :: .ref mcl :: .ref mcs :: .ref mrd :: .int snx :: .int swr :: .int snu :: .int ste :: .int sma :: .int sde :: .int sli :: .ref mop :: .int sod :: .ref mst :: .int sto :: .ref mwd :: .ref msd :: .int sx_ :: .ref mws :: .int sun :: .ref mfr :: .ref mqu :: .ref miw :: .int sfi :: .int swa :: .long sdx :: .ref mim :: .ref mix :: .ref mmd :: []))), (msd, .inl ((cs 0), 133, .inl gsd))]) (wo := []) (sz := sz) (av := [.ref m0, .int a, .int b, .int h]) (Qc := fun A => va_Qi (S := Unit) (fun r _ => True) (fun _ t => ∃ (gsd2 : Nat → Int32), (SI gsd2) ∧ (gsd2 0 = gsd 0) ∧ va_P D vwCl [(m0, .inr (10, (.ref mtp :: .int sta :: .int sru :: .ref msg :: .ref mln :: .ref mcl :: .ref mcs :: .ref mrd :: .int snx :: .int swr :: .int snu :: .int ste :: .int sma :: .int sde :: .int sli :: .ref mop :: .int sod :: .ref mst :: .int sto :: .ref mwd :: .ref msd :: .int sx_ :: .ref mws :: .int sun :: .ref mfr :: .ref mqu :: .ref miw :: .int sfi :: .int swa :: .long sdx :: .ref mim :: .ref mix :: .ref mmd :: []))), (msd, .inl ((cs 0), 133, .inl gsd2))] t.heap ∧ va_D A [(m0, .inr (10, (.ref mtp :: .int sta :: .int sru :: .ref msg :: .ref mln :: .ref mcl :: .ref mcs :: .ref mrd :: .int snx :: .int swr :: .int snu :: .int ste :: .int sma :: .int sde :: .int sli :: .ref mop :: .int sod :: .ref mst :: .int sto :: .ref mwd :: .ref msd :: .int sx_ :: .ref mws :: .int sun :: .ref mfr :: .ref mqu :: .ref miw :: .int sfi :: .int swa :: .long sdx :: .ref mim :: .ref mix :: .ref mmd :: []))), (msd, .inl ((cs 0), 133, .inl gsd2))]) A) (by decide) (Nat.le_of_ble_eq_true rfl) ?_
  intro p e s m below meth c ls A H hHe hx hb hr hml hown hts hlocks hnm hP hK hD hA hS hN hR hX hXs hl
  have hD : va_D A [(m0, .inr (10, (.ref mtp :: .int sta :: .int sru :: .ref msg :: .ref mln :: .ref mcl :: .ref mcs :: .ref mrd :: .int snx :: .int swr :: .int snu :: .int ste :: .int sma :: .int sde :: .int sli :: .ref mop :: .int sod :: .ref mst :: .int sto :: .ref mwd :: .ref msd :: .int sx_ :: .ref mws :: .int sun :: .ref mfr :: .ref mqu :: .ref miw :: .int sfi :: .int swa :: .long sdx :: .ref mim :: .ref mix :: .ref mmd :: []))), (msd, .inl ((cs 0), 133, .inl gsd))] := hD
  obtain ⟨locs, hlc⟩ : ∃ z : List Loc, z = [] := ⟨_, rfl⟩
  rw [← hlc] at hS ⊢
  have hown : s.vm.findClass "WrongHoleModel" = some m.cls := hown
  have hT : ∀ w ∈ TB, w.before ([.ref m0, .int a, .int b, .int h] : List Value).toArray s = true := fun w h => hts w (List.mem_cons_of_mem _ h)
  have hl : lv_has ls 7 [(0, .ref m0), (1, .int a), (2, .int b), (3, .int h)] := hl
  have hP : va_P D vwCl [(m0, .inr (10, (.ref mtp :: .int sta :: .int sru :: .ref msg :: .ref mln :: .ref mcl :: .ref mcs :: .ref mrd :: .int snx :: .int swr :: .int snu :: .int ste :: .int sma :: .int sde :: .int sli :: .ref mop :: .int sod :: .ref mst :: .int sto :: .ref mwd :: .ref msd :: .int sx_ :: .ref mws :: .int sun :: .ref mfr :: .ref mqu :: .ref miw :: .int sfi :: .int swa :: .long sdx :: .ref mim :: .ref mix :: .ref mmd :: []))), (msd, .inl ((cs 0), 133, .inl gsd))] H := hP
  refine lv_iload_n hx hb dX12_crease_0 rfl (lv_at hl 1 rfl) ?_
  refine lv_iconst (v := (-1)) hx hb dX12_crease_1 (by decide) ?_
  refine lv_icmp_ne (tgt := 16) hx hb dX12_crease_2 (by decide) (fun c_1 => ?_) (fun c_1 => ?_)
  · refine lv_iload_n hx hb dX12_crease_16 rfl (lv_at hl 1 rfl) ?_
    refine lv_if_eq (tgt := 25) hx hb dX12_crease_17 (by decide) (fun c_3 => ?_) (fun c_3 => ?_)
    · have r_4 : Rg 0 0 a := Rg.eq_l c_3 (Rg.top a) (Rg.c (c := 0) (k := 0) rfl) (by decide)
      refine lv_iconst (v := 1) hx hb dX12_crease_25 (by decide) ?_
      refine lv_goto (tgt := 30) hx hb dX12_crease_26 (by decide) ?_
      refine lv_istore (lv' := [(4, .int 1), (0, .ref m0), (1, .int a), (2, .int b), (3, .int h)]) hx hb dX12_crease_30 hl (by decide) rfl (fun ls hl => ?_)
      refine lv_iload_n hx hb dX12_crease_32 rfl (lv_at hl 2 rfl) ?_
      refine lv_iconst (v := 2) hx hb dX12_crease_33 (by decide) ?_
      refine lv_icmp_eq (tgt := 42) hx hb dX12_crease_34 (by decide) (fun c_5 => False.elim (Rg.no_eq c_5 r_4 (Rg.c (c := 2) (k := 2) rfl) (by decide))) (fun c_5 => ?_)
      refine lv_iload_n hx hb dX12_crease_37 rfl (lv_at hl 2 rfl) ?_
      refine lv_iconst (v := 3) hx hb dX12_crease_38 (by decide) ?_
      refine lv_icmp_ne (tgt := 46) hx hb dX12_crease_39 (by decide) (fun c_6 => ?_) (fun c_6 => False.elim (Rg.no_eq c_6 r_4 (Rg.c (c := 3) (k := 3) rfl) (by decide)))
      refine lv_iconst (v := 0) hx hb dX12_crease_46 (by decide) ?_
      refine lv_istore (lv' := [(5, .int 0), (4, .int 1), (0, .ref m0), (1, .int a), (2, .int b), (3, .int h)]) hx hb dX12_crease_47 hl (by decide) rfl (fun ls hl => ?_)
      refine lv_iload_n hx hb dX12_crease_49 rfl (lv_at hl 3 rfl) ?_
      refine lv_i2l (v := Int32.toInt64 a) hx hb dX12_crease_50 rfl ?_
      refine lv_topl (fun x_7 e_8 => ?_)
      refine lv_lconst (v := 0) hx hb dX12_crease_51 (by decide) ?_
      refine lv_ldc2 (v := 5) hx hb hown (hT _ qq_7_47) dX12_crease_52 ?_
      have hPc := va_P.sub (ws' := []) hP [] rfl
      refine cl_P (W.runS (As := [.long x_7, .long 0, .long 5]) (rest := []) ⟨hx, hb, hml, hown, hts⟩ (c_M_in l D cs x_7 0 5) ⟨callB_of 3 hts (gd_C qq_6_97) rfl rfl rfl (hT _ qq_1_9) (hT _ qq_6_95) (by decide +kernel) (rm_R rfl rfl), (hT _ qq_6_96)⟩ (pq_S hPc hK hN) rfl rfl hl.1 rfl (lv_room (Nat.le_of_ble_eq_true rfl)) dX12_crease_55 ⟨Nat.le_of_ble_eq_true rfl, Nat.le_of_ble_eq_true rfl⟩) (fun v9 hz_10 => ?_)
      obtain ⟨x_9, rfl, r_11⟩ := hz_10
      refine lv_if_eq (tgt := 108) hx hb dX12_crease_58 (by decide) (fun c_12 => ?_) (fun c_12 => ?_)
      · have r_13 : Rg 0 0 x_9 := Rg.eq_l c_12 r_11.1 (Rg.c (c := 0) (k := 0) rfl) (by decide)
        refine lv_bipush (v := (-2)) hx hb dX12_crease_108 (by decide) ?_
        refine W.widen (k := 0) (n := 0) (Nat.le_of_ble_eq_true rfl) (Nat.le_of_ble_eq_true rfl) ?_
        have hP9 := hP.sub (ws' := [(m0, .inr (10, (.ref mtp :: .int sta :: .int sru :: .ref msg :: .ref mln :: .ref mcl :: .ref mcs :: .ref mrd :: .int snx :: .int swr :: .int snu :: .int ste :: .int sma :: .int sde :: .int sli :: .ref mop :: .int sod :: .ref mst :: .int sto :: .ref mwd :: .ref msd :: .int sx_ :: .ref mws :: .int sun :: .ref mfr :: .ref mqu :: .ref miw :: .int sfi :: .int swa :: .long sdx :: .ref mim :: .ref mix :: .ref mmd :: []))), (msd, .inl ((cs 0), 133, .inl gsd))]) [0, 1] rfl
        have hD9 := hD.sub (ws' := [(m0, .inr (10, (.ref mtp :: .int sta :: .int sru :: .ref msg :: .ref mln :: .ref mcl :: .ref mcs :: .ref mrd :: .int snx :: .int swr :: .int snu :: .int ste :: .int sma :: .int sde :: .int sli :: .ref mop :: .int sod :: .ref mst :: .int sto :: .ref mwd :: .ref msd :: .int sx_ :: .ref mws :: .int sun :: .ref mfr :: .ref mqu :: .ref miw :: .int sfi :: .int swa :: .long sdx :: .ref mim :: .ref mix :: .ref mmd :: []))), (msd, .inl ((cs 0), 133, .inl gsd))]) [0, 1] (by decide) rfl
        exact W.iret (v := (-2)) hx hb hr (fun t9 ht9 hW9 => ⟨⟨_, (), rfl, trivial, ⟨gsd, hsi, rfl, by rw [ht9]; exact hP9, hD9⟩⟩, hS.F ht9⟩) hS.2.2 dX12_crease_110
      · have r_14 : Rg 1 1 x_9 := Rg.ne c_12 r_11.1 (Rg.c (c := 0) (k := 0) rfl) (by decide)
        refine lv_aload_n hx hb dX12_crease_61 rfl (lv_at hl 2 rfl) ?_
        refine lv_iload_n hx hb dX12_crease_62 rfl (lv_at hl 4 rfl) ?_
        have hPc := va_P.sub (ws' := [(m0, .inr (10, (.ref mtp :: .int sta :: .int sru :: .ref msg :: .ref mln :: .ref mcl :: .ref mcs :: .ref mrd :: .int snx :: .int swr :: .int snu :: .int ste :: .int sma :: .int sde :: .int sli :: .ref mop :: .int sod :: .ref mst :: .int sto :: .ref mwd :: .ref msd :: .int sx_ :: .ref mws :: .int sun :: .ref mfr :: .ref mqu :: .ref miw :: .int sfi :: .int swa :: .long sdx :: .ref mim :: .ref mix :: .ref mmd :: []))), (msd, .inl ((cs 0), 133, .inl gsd))]) hP [0, 1] rfl
        refine cl_P (W.runV (As := [.int b]) (rest := []) ⟨hx, hb, hml, hown, hts⟩ (c_M_isButton l D cs m0 mtp sta sru msg mln mcl mcs mrd snx swr snu ste sma sde sli mop sod mst sto mwd msd sx_ mws sun mfr mqu miw sfi swa sdx mim mix mmd gsd b hsi) ⟨callB_of 1 hts (gd_C qq_7_4) rfl rfl rfl (hT _ qq_1_9) (hT _ qq_7_1) (by decide +kernel) (rm_R rfl rfl), (hT _ qq_7_3), (hT _ qs_4_10)⟩ (pq_V hPc hK hN (ci := 10) (q0 := 0) rfl rfl) rfl rfl hl.1 rfl (lv_room (Nat.le_of_ble_eq_true rfl)) dX12_crease_63 ⟨Nat.le_of_ble_eq_true rfl, Nat.le_of_ble_eq_true rfl⟩) (fun v9 hz_16 => ?_)
        obtain ⟨x_15, rfl, r_17⟩ := hz_16
        refine lv_if_eq (tgt := 108) hx hb dX12_crease_66 (by decide) (fun c_18 => ?_) (fun c_18 => ?_)
        · have r_19 : Rg 0 0 x_15 := Rg.eq_l c_18 r_17.1 (Rg.c (c := 0) (k := 0) rfl) (by decide)
          refine lv_bipush (v := (-2)) hx hb dX12_crease_108 (by decide) ?_
          refine W.widen (k := 0) (n := 0) (Nat.le_of_ble_eq_true rfl) (Nat.le_of_ble_eq_true rfl) ?_
          have hP9 := hP.sub (ws' := [(m0, .inr (10, (.ref mtp :: .int sta :: .int sru :: .ref msg :: .ref mln :: .ref mcl :: .ref mcs :: .ref mrd :: .int snx :: .int swr :: .int snu :: .int ste :: .int sma :: .int sde :: .int sli :: .ref mop :: .int sod :: .ref mst :: .int sto :: .ref mwd :: .ref msd :: .int sx_ :: .ref mws :: .int sun :: .ref mfr :: .ref mqu :: .ref miw :: .int sfi :: .int swa :: .long sdx :: .ref mim :: .ref mix :: .ref mmd :: []))), (msd, .inl ((cs 0), 133, .inl gsd))]) [0, 1] rfl
          have hD9 := hD.sub (ws' := [(m0, .inr (10, (.ref mtp :: .int sta :: .int sru :: .ref msg :: .ref mln :: .ref mcl :: .ref mcs :: .ref mrd :: .int snx :: .int swr :: .int snu :: .int ste :: .int sma :: .int sde :: .int sli :: .ref mop :: .int sod :: .ref mst :: .int sto :: .ref mwd :: .ref msd :: .int sx_ :: .ref mws :: .int sun :: .ref mfr :: .ref mqu :: .ref miw :: .int sfi :: .int swa :: .long sdx :: .ref mim :: .ref mix :: .ref mmd :: []))), (msd, .inl ((cs 0), 133, .inl gsd))]) [0, 1] (by decide) rfl
          exact W.iret (v := (-2)) hx hb hr (fun t9 ht9 hW9 => ⟨⟨_, (), rfl, trivial, ⟨gsd, hsi, rfl, by rw [ht9]; exact hP9, hD9⟩⟩, hS.F ht9⟩) hS.2.2 dX12_crease_110
        · have r_20 : Rg 1 1 x_15 := Rg.ne c_18 r_17.1 (Rg.c (c := 0) (k := 0) rfl) (by decide)
          have r_21 : Rg 0 7 b := hb_r (r_17.2.1 c_18) (hsi).a0 (by decide)
          refine lv_aload_n hx hb dX12_crease_69 rfl (lv_at hl 2 rfl) ?_
          refine lv_iload_n hx hb dX12_crease_70 rfl (lv_at hl 5 rfl) ?_
          have hPc := va_P.sub (ws' := [(m0, .inr (10, (.ref mtp :: .int sta :: .int sru :: .ref msg :: .ref mln :: .ref mcl :: .ref mcs :: .ref mrd :: .int snx :: .int swr :: .int snu :: .int ste :: .int sma :: .int sde :: .int sli :: .ref mop :: .int sod :: .ref mst :: .int sto :: .ref mwd :: .ref msd :: .int sx_ :: .ref mws :: .int sun :: .ref mfr :: .ref mqu :: .ref miw :: .int sfi :: .int swa :: .long sdx :: .ref mim :: .ref mix :: .ref mmd :: []))), (msd, .inl ((cs 0), 133, .inl gsd))]) hP [0, 1] rfl
          refine cl_P (W.runV (As := [.int h]) (rest := []) ⟨hx, hb, hml, hown, hts⟩ (c_M_isHole l D cs m0 mtp sta sru msg mln mcl mcs mrd snx swr snu ste sma sde sli mop sod mst sto mwd msd sx_ mws sun mfr mqu miw sfi swa sdx mim mix mmd gsd h hsi) ⟨callB_of 1 hts (gd_C qq_7_37) rfl rfl rfl (hT _ qq_1_9) (hT _ qq_7_34) (by decide +kernel) (rm_R rfl rfl), (hT _ qq_7_36), (hT _ qs_5_1)⟩ (pq_V hPc hK hN (ci := 10) (q0 := 0) rfl rfl) rfl rfl hl.1 rfl (lv_room (Nat.le_of_ble_eq_true rfl)) dX12_crease_71 ⟨Nat.le_of_ble_eq_true rfl, Nat.le_of_ble_eq_true rfl⟩) (fun v9 hz_23 => ?_)
          obtain ⟨x_22, rfl, r_24⟩ := hz_23
          refine lv_if_eq (tgt := 108) hx hb dX12_crease_74 (by decide) (fun c_25 => ?_) (fun c_25 => ?_)
          · have r_26 : Rg 0 0 x_22 := Rg.eq_l c_25 r_24.1 (Rg.c (c := 0) (k := 0) rfl) (by decide)
            refine lv_bipush (v := (-2)) hx hb dX12_crease_108 (by decide) ?_
            refine W.widen (k := 0) (n := 0) (Nat.le_of_ble_eq_true rfl) (Nat.le_of_ble_eq_true rfl) ?_
            have hP9 := hP.sub (ws' := [(m0, .inr (10, (.ref mtp :: .int sta :: .int sru :: .ref msg :: .ref mln :: .ref mcl :: .ref mcs :: .ref mrd :: .int snx :: .int swr :: .int snu :: .int ste :: .int sma :: .int sde :: .int sli :: .ref mop :: .int sod :: .ref mst :: .int sto :: .ref mwd :: .ref msd :: .int sx_ :: .ref mws :: .int sun :: .ref mfr :: .ref mqu :: .ref miw :: .int sfi :: .int swa :: .long sdx :: .ref mim :: .ref mix :: .ref mmd :: []))), (msd, .inl ((cs 0), 133, .inl gsd))]) [0, 1] rfl
            have hD9 := hD.sub (ws' := [(m0, .inr (10, (.ref mtp :: .int sta :: .int sru :: .ref msg :: .ref mln :: .ref mcl :: .ref mcs :: .ref mrd :: .int snx :: .int swr :: .int snu :: .int ste :: .int sma :: .int sde :: .int sli :: .ref mop :: .int sod :: .ref mst :: .int sto :: .ref mwd :: .ref msd :: .int sx_ :: .ref mws :: .int sun :: .ref mfr :: .ref mqu :: .ref miw :: .int sfi :: .int swa :: .long sdx :: .ref mim :: .ref mix :: .ref mmd :: []))), (msd, .inl ((cs 0), 133, .inl gsd))]) [0, 1] (by decide) rfl
            exact W.iret (v := (-2)) hx hb hr (fun t9 ht9 hW9 => ⟨⟨_, (), rfl, trivial, ⟨gsd, hsi, rfl, by rw [ht9]; exact hP9, hD9⟩⟩, hS.F ht9⟩) hS.2.2 dX12_crease_110
          · have r_27 : Rg 1 1 x_22 := Rg.ne c_25 r_24.1 (Rg.c (c := 0) (k := 0) rfl) (by decide)
            have r_28 : Rg 0 7 h := hb_r (r_24.2.1 c_25) (hsi).a1 (by decide)
            refine lv_iload hx hb dX12_crease_77 (lv_at hl 1 rfl) ?_
            refine lv_if_eq (tgt := 86) hx hb dX12_crease_79 (by decide) (fun c_29 => False.elim (Rg.no_eq c_29 (Rg.c (c := 1) (k := 1) rfl) (Rg.c (c := 0) (k := 0) rfl) (by decide))) (fun c_29 => ?_)
            refine lv_iload_n hx hb dX12_crease_82 rfl (lv_at hl 5 rfl) ?_
            refine lv_if_ne (tgt := 108) hx hb dX12_crease_83 (by decide) (fun c_30 => ?_) (fun c_30 => ?_)
            · have r_31 : Rg 1 7 h := Rg.ne c_30 r_28 (Rg.c (c := 0) (k := 0) rfl) (by decide)
              refine lv_bipush (v := (-2)) hx hb dX12_crease_108 (by decide) ?_
              refine W.widen (k := 0) (n := 0) (Nat.le_of_ble_eq_true rfl) (Nat.le_of_ble_eq_true rfl) ?_
              have hP9 := hP.sub (ws' := [(m0, .inr (10, (.ref mtp :: .int sta :: .int sru :: .ref msg :: .ref mln :: .ref mcl :: .ref mcs :: .ref mrd :: .int snx :: .int swr :: .int snu :: .int ste :: .int sma :: .int sde :: .int sli :: .ref mop :: .int sod :: .ref mst :: .int sto :: .ref mwd :: .ref msd :: .int sx_ :: .ref mws :: .int sun :: .ref mfr :: .ref mqu :: .ref miw :: .int sfi :: .int swa :: .long sdx :: .ref mim :: .ref mix :: .ref mmd :: []))), (msd, .inl ((cs 0), 133, .inl gsd))]) [0, 1] rfl
              have hD9 := hD.sub (ws' := [(m0, .inr (10, (.ref mtp :: .int sta :: .int sru :: .ref msg :: .ref mln :: .ref mcl :: .ref mcs :: .ref mrd :: .int snx :: .int swr :: .int snu :: .int ste :: .int sma :: .int sde :: .int sli :: .ref mop :: .int sod :: .ref mst :: .int sto :: .ref mwd :: .ref msd :: .int sx_ :: .ref mws :: .int sun :: .ref mfr :: .ref mqu :: .ref miw :: .int sfi :: .int swa :: .long sdx :: .ref mim :: .ref mix :: .ref mmd :: []))), (msd, .inl ((cs 0), 133, .inl gsd))]) [0, 1] (by decide) rfl
              exact W.iret (v := (-2)) hx hb hr (fun t9 ht9 hW9 => ⟨⟨_, (), rfl, trivial, ⟨gsd, hsi, rfl, by rw [ht9]; exact hP9, hD9⟩⟩, hS.F ht9⟩) hS.2.2 dX12_crease_110
            · have r_32 : Rg 0 0 h := Rg.eq_l c_30 r_28 (Rg.c (c := 0) (k := 0) rfl) (by decide)
              refine lv_iload hx hb dX12_crease_86 (lv_at hl 0 rfl) ?_
              refine lv_if_eq (tgt := 95) hx hb dX12_crease_88 (by decide) (fun c_33 => ?_) (fun c_33 => False.elim (Rg.no_ne c_33 (Rg.c (c := 0) (k := 0) rfl) (Rg.c (c := 0) (k := 0) rfl) (by decide)))
              refine lv_aload_n hx hb dX12_crease_95 rfl (lv_at hl 2 rfl) ?_
              refine va_get (D := D) (ci := 10) (v := .ref msd) (C := "WrongHoleModel") (T := TX12) (N := 33) hx hb hts (iq_RX12 _) hown hK hP 0 rfl rfl 20 (by decide) (hT _ qq_5_172) (fun _ h9 => h9) rfl dX12_crease_96 ?_
              refine lv_sipush (v := 132) hx hb dX12_crease_99 (by decide) ?_
              have hi_34 : vp_in 132 133 := vi_c rfl
              refine va_iald hx hb hK hP 1 0 rfl rfl hi_34 dX12_crease_102 ?_
              refine lv_topi (fun x_35 e_36 => ?_)
              have r_37 : Rg 0 10 x_35 := Rg.of e_36 (hsi.a132)
              refine lv_bipush (v := 10) hx hb dX12_crease_103 (by decide) ?_
              refine lv_icmp_ne (tgt := 111) hx hb dX12_crease_105 (by decide) (fun c_38 => ?_) (fun c_38 => ?_)
              · have r_39 : Rg 0 9 x_35 := Rg.ne c_38 r_37 (Rg.c (c := 10) (k := 10) rfl) (by decide)
                refine lv_bipush (v := 102) hx hb dX12_crease_111 (by decide) ?_
                refine lv_iconst (v := 3) hx hb dX12_crease_113 (by decide) ?_
                refine lv_aload_n hx hb dX12_crease_114 rfl (lv_at hl 2 rfl) ?_
                refine va_get (D := D) (ci := 10) (v := .ref msd) (C := "WrongHoleModel") (T := TX12) (N := 33) hx hb hts (iq_RX12 _) hown hK hP 0 rfl rfl 20 (by decide) (hT _ qq_5_172) (fun _ h9 => h9) rfl dX12_crease_115 ?_
                refine lv_sipush (v := 132) hx hb dX12_crease_118 (by decide) ?_
                have hi_41 : vp_in 132 133 := vi_c rfl
                refine va_iald hx hb hK hP 1 0 rfl rfl hi_41 dX12_crease_121 ?_
                refine lv_topi (fun x_42 e_43 => ?_)
                have r_44 : Rg 0 10 x_42 := Rg.of e_43 (hsi).a132
                have r_45 : Rg 0 9 x_42 := Rg.of (e_43.trans e_36.symm) r_39
                refine lv_imul hx hb dX12_crease_122 ?_
                refine lv_topi (fun x_46 e_47 => ?_)
                have r_48 : Rg 0 27 x_46 := Rg.mul (ha := 3) (hb := 9) e_47 (Rg.wk (lo2 := 0) (hi2 := 3) (Rg.c (c := 3) (k := 3) rfl) (by decide)) r_45 (by decide)
                refine lv_iadd hx hb dX12_crease_123 ?_
                refine lv_topi (fun x_49 e_50 => ?_)
                have r_51 : Rg 102 129 x_49 := Rg.add e_50 (Rg.c (c := 102) (k := 102) rfl) r_48 (by decide)
                refine lv_istore (lv' := [(6, .int x_49), (5, .int 0), (4, .int 1), (0, .ref m0), (1, .int a), (2, .int b), (3, .int h)]) hx hb dX12_crease_124 hl (by decide) rfl (fun ls hl => ?_)
                refine lv_aload_n hx hb dX12_crease_126 rfl (lv_at hl 3 rfl) ?_
                refine va_get (D := D) (ci := 10) (v := .ref msd) (C := "WrongHoleModel") (T := TX12) (N := 33) hx hb hts (iq_RX12 _) hown hK hP 0 rfl rfl 20 (by decide) (hT _ qq_5_172) (fun _ h9 => h9) rfl dX12_crease_127 ?_
                refine lv_iload hx hb dX12_crease_130 (lv_at hl 0 rfl) ?_
                refine lv_iload_n hx hb dX12_crease_132 rfl (lv_at hl 4 rfl) ?_
                have hi_52 : vp_in x_49 133 := Rg.in r_51 (by decide)
                refine va_iast hx hb hK hP hD hS 1 0 rfl rfl hi_52 dX12_crease_133 (fun H locs hP hD hS => ?_)
                obtain ⟨g_53, rb_54, hP, hD⟩ : ∃ g_53 : Nat → Int32, (SI g_53 ∧ g_53 0 = gsd 0 ∧ g_53 132 = gsd 132) ∧ va_P D vwCl [(m0, .inr (10, (.ref mtp :: .int sta :: .int sru :: .ref msg :: .ref mln :: .ref mcl :: .ref mcs :: .ref mrd :: .int snx :: .int swr :: .int snu :: .int ste :: .int sma :: .int sde :: .int sli :: .ref mop :: .int sod :: .ref mst :: .int sto :: .ref mwd :: .ref msd :: .int sx_ :: .ref mws :: .int sun :: .ref mfr :: .ref mqu :: .ref miw :: .int sfi :: .int swa :: .long sdx :: .ref mim :: .ref mix :: .ref mmd :: []))), (msd, .inl ((cs 0), 133, .inl g_53))] H ∧ va_D A [(m0, .inr (10, (.ref mtp :: .int sta :: .int sru :: .ref msg :: .ref mln :: .ref mcl :: .ref mcs :: .ref mrd :: .int snx :: .int swr :: .int snu :: .int ste :: .int sma :: .int sde :: .int sli :: .ref mop :: .int sod :: .ref mst :: .int sto :: .ref mwd :: .ref msd :: .int sx_ :: .ref mws :: .int sun :: .ref mfr :: .ref mqu :: .ref miw :: .int sfi :: .int swa :: .long sdx :: .ref mim :: .ref mix :: .ref mmd :: []))), (msd, .inl ((cs 0), 133, .inl g_53))] := ⟨_, ⟨si_cr hsi (show 102 ≤ cN x_49 ∧ cN x_49 < 133 from by have h9 := cN_i r_51 (by decide); have h8 := (r_51).1; have h7 := (r_51).2; exact ⟨by omega, by omega⟩) (Rg.wk (lo2 := 0) (hi2 := 7) r_4 (by decide)), (up_n (by have h9 := cN_i r_51 (by decide); have h8 := (r_51).1; show 0 ≠ cN x_49; omega)).trans rfl, (up_n (by have h9 := cN_i r_51 (by decide); have h8 := (r_51).2; show 132 ≠ cN x_49; omega)).trans rfl⟩, hP, hD⟩
                refine lv_aload_n hx hb dX12_crease_134 rfl (lv_at hl 3 rfl) ?_
                refine va_get (D := D) (ci := 10) (v := .ref msd) (C := "WrongHoleModel") (T := TX12) (N := 33) hx hb hts (iq_RX12 _) hown hK hP 0 rfl rfl 20 (by decide) (hT _ qq_5_172) (fun _ h9 => h9) rfl dX12_crease_135 ?_
                refine lv_iload hx hb dX12_crease_138 (lv_at hl 0 rfl) ?_
                refine lv_iconst (v := 1) hx hb dX12_crease_140 (by decide) ?_
                refine lv_iadd hx hb dX12_crease_141 ?_
                refine lv_topi (fun x_55 e_56 => ?_)
                have r_57 : Rg 103 130 x_55 := Rg.add e_56 r_51 (Rg.c (c := 1) (k := 1) rfl) (by decide)
                refine lv_iload_n hx hb dX12_crease_142 rfl (lv_at hl 5 rfl) ?_
                have hi_58 : vp_in x_55 133 := Rg.in r_57 (by decide)
                refine va_iast hx hb hK hP hD hS 1 0 rfl rfl hi_58 dX12_crease_143 (fun H locs hP hD hS => ?_)
                obtain ⟨g_59, rb_60, hP, hD⟩ : ∃ g_59 : Nat → Int32, (SI g_59 ∧ g_59 0 = gsd 0 ∧ g_59 132 = gsd 132) ∧ va_P D vwCl [(m0, .inr (10, (.ref mtp :: .int sta :: .int sru :: .ref msg :: .ref mln :: .ref mcl :: .ref mcs :: .ref mrd :: .int snx :: .int swr :: .int snu :: .int ste :: .int sma :: .int sde :: .int sli :: .ref mop :: .int sod :: .ref mst :: .int sto :: .ref mwd :: .ref msd :: .int sx_ :: .ref mws :: .int sun :: .ref mfr :: .ref mqu :: .ref miw :: .int sfi :: .int swa :: .long sdx :: .ref mim :: .ref mix :: .ref mmd :: []))), (msd, .inl ((cs 0), 133, .inl g_59))] H ∧ va_D A [(m0, .inr (10, (.ref mtp :: .int sta :: .int sru :: .ref msg :: .ref mln :: .ref mcl :: .ref mcs :: .ref mrd :: .int snx :: .int swr :: .int snu :: .int ste :: .int sma :: .int sde :: .int sli :: .ref mop :: .int sod :: .ref mst :: .int sto :: .ref mwd :: .ref msd :: .int sx_ :: .ref mws :: .int sun :: .ref mfr :: .ref mqu :: .ref miw :: .int sfi :: .int swa :: .long sdx :: .ref mim :: .ref mix :: .ref mmd :: []))), (msd, .inl ((cs 0), 133, .inl g_59))] := ⟨_, ⟨si_cr rb_54.1 (show 102 ≤ cN x_55 ∧ cN x_55 < 133 from by have h9 := cN_i r_57 (by decide); have h8 := (r_57).1; have h7 := (r_57).2; exact ⟨by omega, by omega⟩) r_21, (up_n (by have h9 := cN_i r_57 (by decide); have h8 := (r_57).1; show 0 ≠ cN x_55; omega)).trans rb_54.2.1, (up_n (by have h9 := cN_i r_57 (by decide); have h8 := (r_57).2; show 132 ≠ cN x_55; omega)).trans rb_54.2.2⟩, hP, hD⟩
                refine lv_aload_n hx hb dX12_crease_144 rfl (lv_at hl 3 rfl) ?_
                refine va_get (D := D) (ci := 10) (v := .ref msd) (C := "WrongHoleModel") (T := TX12) (N := 33) hx hb hts (iq_RX12 _) hown hK hP 0 rfl rfl 20 (by decide) (hT _ qq_5_172) (fun _ h9 => h9) rfl dX12_crease_145 ?_
                refine lv_iload hx hb dX12_crease_148 (lv_at hl 0 rfl) ?_
                refine lv_iconst (v := 2) hx hb dX12_crease_150 (by decide) ?_
                refine lv_iadd hx hb dX12_crease_151 ?_
                refine lv_topi (fun x_61 e_62 => ?_)
                have r_63 : Rg 104 131 x_61 := Rg.add e_62 r_51 (Rg.c (c := 2) (k := 2) rfl) (by decide)
                refine lv_iload_n hx hb dX12_crease_152 rfl (lv_at hl 6 rfl) ?_
                have hi_64 : vp_in x_61 133 := Rg.in r_63 (by decide)
                refine va_iast hx hb hK hP hD hS 1 0 rfl rfl hi_64 dX12_crease_153 (fun H locs hP hD hS => ?_)
                obtain ⟨g_65, rb_66, hP, hD⟩ : ∃ g_65 : Nat → Int32, (SI g_65 ∧ g_65 0 = gsd 0 ∧ g_65 132 = gsd 132) ∧ va_P D vwCl [(m0, .inr (10, (.ref mtp :: .int sta :: .int sru :: .ref msg :: .ref mln :: .ref mcl :: .ref mcs :: .ref mrd :: .int snx :: .int swr :: .int snu :: .int ste :: .int sma :: .int sde :: .int sli :: .ref mop :: .int sod :: .ref mst :: .int sto :: .ref mwd :: .ref msd :: .int sx_ :: .ref mws :: .int sun :: .ref mfr :: .ref mqu :: .ref miw :: .int sfi :: .int swa :: .long sdx :: .ref mim :: .ref mix :: .ref mmd :: []))), (msd, .inl ((cs 0), 133, .inl g_65))] H ∧ va_D A [(m0, .inr (10, (.ref mtp :: .int sta :: .int sru :: .ref msg :: .ref mln :: .ref mcl :: .ref mcs :: .ref mrd :: .int snx :: .int swr :: .int snu :: .int ste :: .int sma :: .int sde :: .int sli :: .ref mop :: .int sod :: .ref mst :: .int sto :: .ref mwd :: .ref msd :: .int sx_ :: .ref mws :: .int sun :: .ref mfr :: .ref mqu :: .ref miw :: .int sfi :: .int swa :: .long sdx :: .ref mim :: .ref mix :: .ref mmd :: []))), (msd, .inl ((cs 0), 133, .inl g_65))] := ⟨_, ⟨si_cr rb_60.1 (show 102 ≤ cN x_61 ∧ cN x_61 < 133 from by have h9 := cN_i r_63 (by decide); have h8 := (r_63).1; have h7 := (r_63).2; exact ⟨by omega, by omega⟩) (Rg.wk (lo2 := 0) (hi2 := 7) r_32 (by decide)), (up_n (by have h9 := cN_i r_63 (by decide); have h8 := (r_63).1; show 0 ≠ cN x_61; omega)).trans rb_60.2.1, (up_n (by have h9 := cN_i r_63 (by decide); have h8 := (r_63).2; show 132 ≠ cN x_61; omega)).trans rb_60.2.2⟩, hP, hD⟩
                refine lv_aload_n hx hb dX12_crease_154 rfl (lv_at hl 3 rfl) ?_
                refine va_get (D := D) (ci := 10) (v := .ref msd) (C := "WrongHoleModel") (T := TX12) (N := 33) hx hb hts (iq_RX12 _) hown hK hP 0 rfl rfl 20 (by decide) (hT _ qq_5_172) (fun _ h9 => h9) rfl dX12_crease_155 ?_
                refine lv_sipush (v := 132) hx hb dX12_crease_158 (by decide) ?_
                refine lv_dup2_11 hx hb dX12_crease_161 rfl rfl ?_
                have hi_67 : vp_in 132 133 := vi_c rfl
                refine va_iald hx hb hK hP 1 0 rfl rfl hi_67 dX12_crease_162 ?_
                refine lv_topi (fun x_68 e_69 => ?_)
                have r_70 : Rg 0 9 x_68 := Rg.of (e_69.trans (rb_66.2.2.trans e_36.symm)) r_39
                refine lv_iconst (v := 1) hx hb dX12_crease_163 (by decide) ?_
                refine lv_iadd hx hb dX12_crease_164 ?_
                refine lv_topi (fun x_71 e_72 => ?_)
                have r_73 : Rg 1 10 x_71 := Rg.add e_72 r_70 (Rg.c (c := 1) (k := 1) rfl) (by decide)
                have hi_74 : vp_in 132 133 := vi_c rfl
                refine va_iast hx hb hK hP hD hS 1 0 rfl rfl hi_74 dX12_crease_165 (fun H locs hP hD hS => ?_)
                obtain ⟨g_75, rb_76, hP, hD⟩ : ∃ g_75 : Nat → Int32, (SI g_75 ∧ g_75 0 = gsd 0) ∧ va_P D vwCl [(m0, .inr (10, (.ref mtp :: .int sta :: .int sru :: .ref msg :: .ref mln :: .ref mcl :: .ref mcs :: .ref mrd :: .int snx :: .int swr :: .int snu :: .int ste :: .int sma :: .int sde :: .int sli :: .ref mop :: .int sod :: .ref mst :: .int sto :: .ref mwd :: .ref msd :: .int sx_ :: .ref mws :: .int sun :: .ref mfr :: .ref mqu :: .ref miw :: .int sfi :: .int swa :: .long sdx :: .ref mim :: .ref mix :: .ref mmd :: []))), (msd, .inl ((cs 0), 133, .inl g_75))] H ∧ va_D A [(m0, .inr (10, (.ref mtp :: .int sta :: .int sru :: .ref msg :: .ref mln :: .ref mcl :: .ref mcs :: .ref mrd :: .int snx :: .int swr :: .int snu :: .int ste :: .int sma :: .int sde :: .int sli :: .ref mop :: .int sod :: .ref mst :: .int sto :: .ref mwd :: .ref msd :: .int sx_ :: .ref mws :: .int sun :: .ref mfr :: .ref mqu :: .ref miw :: .int sfi :: .int swa :: .long sdx :: .ref mim :: .ref mix :: .ref mmd :: []))), (msd, .inl ((cs 0), 133, .inl g_75))] := ⟨_, ⟨si_132 rb_66.1 (Rg.wk (lo2 := 0) (hi2 := 10) r_73 (by decide)), (up_n (by decide)).trans rb_66.2.1⟩, hP, hD⟩
                refine lv_aload_n hx hb dX12_crease_166 rfl (lv_at hl 3 rfl) ?_
                refine va_get (D := D) (ci := 10) (v := .ref msd) (C := "WrongHoleModel") (T := TX12) (N := 33) hx hb hts (iq_RX12 _) hown hK hP 0 rfl rfl 20 (by decide) (hT _ qq_5_172) (fun _ h9 => h9) rfl dX12_crease_167 ?_
                refine lv_sipush (v := 132) hx hb dX12_crease_170 (by decide) ?_
                have hi_77 : vp_in 132 133 := vi_c rfl
                refine va_iald hx hb hK hP 1 0 rfl rfl hi_77 dX12_crease_173 ?_
                refine lv_topi (fun x_78 e_79 => ?_)
                have r_80 : Rg 0 10 x_78 := Rg.of e_79 (rb_76.1.a132)
                refine W.widen (k := 0) (n := 0) (Nat.le_of_ble_eq_true rfl) (Nat.le_of_ble_eq_true rfl) ?_
                have hP9 := hP.sub (ws' := [(m0, .inr (10, (.ref mtp :: .int sta :: .int sru :: .ref msg :: .ref mln :: .ref mcl :: .ref mcs :: .ref mrd :: .int snx :: .int swr :: .int snu :: .int ste :: .int sma :: .int sde :: .int sli :: .ref mop :: .int sod :: .ref mst :: .int sto :: .ref mwd :: .ref msd :: .int sx_ :: .ref mws :: .int sun :: .ref mfr :: .ref mqu :: .ref miw :: .int sfi :: .int swa :: .long sdx :: .ref mim :: .ref mix :: .ref mmd :: []))), (msd, .inl ((cs 0), 133, .inl g_75))]) [0, 1] rfl
                have hD9 := hD.sub (ws' := [(m0, .inr (10, (.ref mtp :: .int sta :: .int sru :: .ref msg :: .ref mln :: .ref mcl :: .ref mcs :: .ref mrd :: .int snx :: .int swr :: .int snu :: .int ste :: .int sma :: .int sde :: .int sli :: .ref mop :: .int sod :: .ref mst :: .int sto :: .ref mwd :: .ref msd :: .int sx_ :: .ref mws :: .int sun :: .ref mfr :: .ref mqu :: .ref miw :: .int sfi :: .int swa :: .long sdx :: .ref mim :: .ref mix :: .ref mmd :: []))), (msd, .inl ((cs 0), 133, .inl g_75))]) [0, 1] (by decide) rfl
                exact W.iret (v := x_78) hx hb hr (fun t9 ht9 hW9 => ⟨⟨_, (), rfl, trivial, ⟨g_75, rb_76.1, rb_76.2, by rw [ht9]; exact hP9, hD9⟩⟩, hS.F ht9⟩) hS.2.2 dX12_crease_174
              · have r_40 : Rg 10 10 x_35 := Rg.eq_l c_38 r_37 (Rg.c (c := 10) (k := 10) rfl) (by decide)
                refine lv_bipush (v := (-2)) hx hb dX12_crease_108 (by decide) ?_
                refine W.widen (k := 0) (n := 0) (Nat.le_of_ble_eq_true rfl) (Nat.le_of_ble_eq_true rfl) ?_
                have hP9 := hP.sub (ws' := [(m0, .inr (10, (.ref mtp :: .int sta :: .int sru :: .ref msg :: .ref mln :: .ref mcl :: .ref mcs :: .ref mrd :: .int snx :: .int swr :: .int snu :: .int ste :: .int sma :: .int sde :: .int sli :: .ref mop :: .int sod :: .ref mst :: .int sto :: .ref mwd :: .ref msd :: .int sx_ :: .ref mws :: .int sun :: .ref mfr :: .ref mqu :: .ref miw :: .int sfi :: .int swa :: .long sdx :: .ref mim :: .ref mix :: .ref mmd :: []))), (msd, .inl ((cs 0), 133, .inl gsd))]) [0, 1] rfl
                have hD9 := hD.sub (ws' := [(m0, .inr (10, (.ref mtp :: .int sta :: .int sru :: .ref msg :: .ref mln :: .ref mcl :: .ref mcs :: .ref mrd :: .int snx :: .int swr :: .int snu :: .int ste :: .int sma :: .int sde :: .int sli :: .ref mop :: .int sod :: .ref mst :: .int sto :: .ref mwd :: .ref msd :: .int sx_ :: .ref mws :: .int sun :: .ref mfr :: .ref mqu :: .ref miw :: .int sfi :: .int swa :: .long sdx :: .ref mim :: .ref mix :: .ref mmd :: []))), (msd, .inl ((cs 0), 133, .inl gsd))]) [0, 1] (by decide) rfl
                exact W.iret (v := (-2)) hx hb hr (fun t9 ht9 hW9 => ⟨⟨_, (), rfl, trivial, ⟨gsd, hsi, rfl, by rw [ht9]; exact hP9, hD9⟩⟩, hS.F ht9⟩) hS.2.2 dX12_crease_110
    · refine lv_iload_n hx hb dX12_crease_20 rfl (lv_at hl 1 rfl) ?_
      refine lv_iconst (v := 1) hx hb dX12_crease_21 (by decide) ?_
      refine lv_icmp_ne (tgt := 29) hx hb dX12_crease_22 (by decide) (fun c_81 => ?_) (fun c_81 => ?_)
      · refine lv_iconst (v := 0) hx hb dX12_crease_29 (by decide) ?_
        refine lv_istore (lv' := [(4, .int 0), (0, .ref m0), (1, .int a), (2, .int b), (3, .int h)]) hx hb dX12_crease_30 hl (by decide) rfl (fun ls hl => ?_)
        refine lv_iload_n hx hb dX12_crease_32 rfl (lv_at hl 2 rfl) ?_
        refine lv_iconst (v := 2) hx hb dX12_crease_33 (by decide) ?_
        refine lv_icmp_eq (tgt := 42) hx hb dX12_crease_34 (by decide) (fun c_83 => ?_) (fun c_83 => ?_)
        · have r_84 : Rg 2 2 a := Rg.eq_l c_83 (Rg.top a) (Rg.c (c := 2) (k := 2) rfl) (by decide)
          refine lv_iconst (v := 1) hx hb dX12_crease_42 (by decide) ?_
          refine lv_goto (tgt := 47) hx hb dX12_crease_43 (by decide) ?_
          refine lv_istore (lv' := [(5, .int 1), (4, .int 0), (0, .ref m0), (1, .int a), (2, .int b), (3, .int h)]) hx hb dX12_crease_47 hl (by decide) rfl (fun ls hl => ?_)
          refine lv_iload_n hx hb dX12_crease_49 rfl (lv_at hl 3 rfl) ?_
          refine lv_i2l (v := Int32.toInt64 a) hx hb dX12_crease_50 rfl ?_
          refine lv_topl (fun x_85 e_86 => ?_)
          refine lv_lconst (v := 0) hx hb dX12_crease_51 (by decide) ?_
          refine lv_ldc2 (v := 5) hx hb hown (hT _ qq_7_47) dX12_crease_52 ?_
          have hPc := va_P.sub (ws' := []) hP [] rfl
          refine cl_P (W.runS (As := [.long x_85, .long 0, .long 5]) (rest := []) ⟨hx, hb, hml, hown, hts⟩ (c_M_in l D cs x_85 0 5) ⟨callB_of 3 hts (gd_C qq_6_97) rfl rfl rfl (hT _ qq_1_9) (hT _ qq_6_95) (by decide +kernel) (rm_R rfl rfl), (hT _ qq_6_96)⟩ (pq_S hPc hK hN) rfl rfl hl.1 rfl (lv_room (Nat.le_of_ble_eq_true rfl)) dX12_crease_55 ⟨Nat.le_of_ble_eq_true rfl, Nat.le_of_ble_eq_true rfl⟩) (fun v9 hz_88 => ?_)
          obtain ⟨x_87, rfl, r_89⟩ := hz_88
          refine lv_if_eq (tgt := 108) hx hb dX12_crease_58 (by decide) (fun c_90 => ?_) (fun c_90 => ?_)
          · have r_91 : Rg 0 0 x_87 := Rg.eq_l c_90 r_89.1 (Rg.c (c := 0) (k := 0) rfl) (by decide)
            refine lv_bipush (v := (-2)) hx hb dX12_crease_108 (by decide) ?_
            refine W.widen (k := 0) (n := 0) (Nat.le_of_ble_eq_true rfl) (Nat.le_of_ble_eq_true rfl) ?_
            have hP9 := hP.sub (ws' := [(m0, .inr (10, (.ref mtp :: .int sta :: .int sru :: .ref msg :: .ref mln :: .ref mcl :: .ref mcs :: .ref mrd :: .int snx :: .int swr :: .int snu :: .int ste :: .int sma :: .int sde :: .int sli :: .ref mop :: .int sod :: .ref mst :: .int sto :: .ref mwd :: .ref msd :: .int sx_ :: .ref mws :: .int sun :: .ref mfr :: .ref mqu :: .ref miw :: .int sfi :: .int swa :: .long sdx :: .ref mim :: .ref mix :: .ref mmd :: []))), (msd, .inl ((cs 0), 133, .inl gsd))]) [0, 1] rfl
            have hD9 := hD.sub (ws' := [(m0, .inr (10, (.ref mtp :: .int sta :: .int sru :: .ref msg :: .ref mln :: .ref mcl :: .ref mcs :: .ref mrd :: .int snx :: .int swr :: .int snu :: .int ste :: .int sma :: .int sde :: .int sli :: .ref mop :: .int sod :: .ref mst :: .int sto :: .ref mwd :: .ref msd :: .int sx_ :: .ref mws :: .int sun :: .ref mfr :: .ref mqu :: .ref miw :: .int sfi :: .int swa :: .long sdx :: .ref mim :: .ref mix :: .ref mmd :: []))), (msd, .inl ((cs 0), 133, .inl gsd))]) [0, 1] (by decide) rfl
            exact W.iret (v := (-2)) hx hb hr (fun t9 ht9 hW9 => ⟨⟨_, (), rfl, trivial, ⟨gsd, hsi, rfl, by rw [ht9]; exact hP9, hD9⟩⟩, hS.F ht9⟩) hS.2.2 dX12_crease_110
          · have r_92 : Rg 1 1 x_87 := Rg.ne c_90 r_89.1 (Rg.c (c := 0) (k := 0) rfl) (by decide)
            refine lv_aload_n hx hb dX12_crease_61 rfl (lv_at hl 2 rfl) ?_
            refine lv_iload_n hx hb dX12_crease_62 rfl (lv_at hl 4 rfl) ?_
            have hPc := va_P.sub (ws' := [(m0, .inr (10, (.ref mtp :: .int sta :: .int sru :: .ref msg :: .ref mln :: .ref mcl :: .ref mcs :: .ref mrd :: .int snx :: .int swr :: .int snu :: .int ste :: .int sma :: .int sde :: .int sli :: .ref mop :: .int sod :: .ref mst :: .int sto :: .ref mwd :: .ref msd :: .int sx_ :: .ref mws :: .int sun :: .ref mfr :: .ref mqu :: .ref miw :: .int sfi :: .int swa :: .long sdx :: .ref mim :: .ref mix :: .ref mmd :: []))), (msd, .inl ((cs 0), 133, .inl gsd))]) hP [0, 1] rfl
            refine cl_P (W.runV (As := [.int b]) (rest := []) ⟨hx, hb, hml, hown, hts⟩ (c_M_isButton l D cs m0 mtp sta sru msg mln mcl mcs mrd snx swr snu ste sma sde sli mop sod mst sto mwd msd sx_ mws sun mfr mqu miw sfi swa sdx mim mix mmd gsd b hsi) ⟨callB_of 1 hts (gd_C qq_7_4) rfl rfl rfl (hT _ qq_1_9) (hT _ qq_7_1) (by decide +kernel) (rm_R rfl rfl), (hT _ qq_7_3), (hT _ qs_4_10)⟩ (pq_V hPc hK hN (ci := 10) (q0 := 0) rfl rfl) rfl rfl hl.1 rfl (lv_room (Nat.le_of_ble_eq_true rfl)) dX12_crease_63 ⟨Nat.le_of_ble_eq_true rfl, Nat.le_of_ble_eq_true rfl⟩) (fun v9 hz_94 => ?_)
            obtain ⟨x_93, rfl, r_95⟩ := hz_94
            refine lv_if_eq (tgt := 108) hx hb dX12_crease_66 (by decide) (fun c_96 => ?_) (fun c_96 => ?_)
            · have r_97 : Rg 0 0 x_93 := Rg.eq_l c_96 r_95.1 (Rg.c (c := 0) (k := 0) rfl) (by decide)
              refine lv_bipush (v := (-2)) hx hb dX12_crease_108 (by decide) ?_
              refine W.widen (k := 0) (n := 0) (Nat.le_of_ble_eq_true rfl) (Nat.le_of_ble_eq_true rfl) ?_
              have hP9 := hP.sub (ws' := [(m0, .inr (10, (.ref mtp :: .int sta :: .int sru :: .ref msg :: .ref mln :: .ref mcl :: .ref mcs :: .ref mrd :: .int snx :: .int swr :: .int snu :: .int ste :: .int sma :: .int sde :: .int sli :: .ref mop :: .int sod :: .ref mst :: .int sto :: .ref mwd :: .ref msd :: .int sx_ :: .ref mws :: .int sun :: .ref mfr :: .ref mqu :: .ref miw :: .int sfi :: .int swa :: .long sdx :: .ref mim :: .ref mix :: .ref mmd :: []))), (msd, .inl ((cs 0), 133, .inl gsd))]) [0, 1] rfl
              have hD9 := hD.sub (ws' := [(m0, .inr (10, (.ref mtp :: .int sta :: .int sru :: .ref msg :: .ref mln :: .ref mcl :: .ref mcs :: .ref mrd :: .int snx :: .int swr :: .int snu :: .int ste :: .int sma :: .int sde :: .int sli :: .ref mop :: .int sod :: .ref mst :: .int sto :: .ref mwd :: .ref msd :: .int sx_ :: .ref mws :: .int sun :: .ref mfr :: .ref mqu :: .ref miw :: .int sfi :: .int swa :: .long sdx :: .ref mim :: .ref mix :: .ref mmd :: []))), (msd, .inl ((cs 0), 133, .inl gsd))]) [0, 1] (by decide) rfl
              exact W.iret (v := (-2)) hx hb hr (fun t9 ht9 hW9 => ⟨⟨_, (), rfl, trivial, ⟨gsd, hsi, rfl, by rw [ht9]; exact hP9, hD9⟩⟩, hS.F ht9⟩) hS.2.2 dX12_crease_110
            · have r_98 : Rg 1 1 x_93 := Rg.ne c_96 r_95.1 (Rg.c (c := 0) (k := 0) rfl) (by decide)
              have r_99 : Rg 0 7 b := hb_r (r_95.2.1 c_96) (hsi).a0 (by decide)
              refine lv_aload_n hx hb dX12_crease_69 rfl (lv_at hl 2 rfl) ?_
              refine lv_iload_n hx hb dX12_crease_70 rfl (lv_at hl 5 rfl) ?_
              have hPc := va_P.sub (ws' := [(m0, .inr (10, (.ref mtp :: .int sta :: .int sru :: .ref msg :: .ref mln :: .ref mcl :: .ref mcs :: .ref mrd :: .int snx :: .int swr :: .int snu :: .int ste :: .int sma :: .int sde :: .int sli :: .ref mop :: .int sod :: .ref mst :: .int sto :: .ref mwd :: .ref msd :: .int sx_ :: .ref mws :: .int sun :: .ref mfr :: .ref mqu :: .ref miw :: .int sfi :: .int swa :: .long sdx :: .ref mim :: .ref mix :: .ref mmd :: []))), (msd, .inl ((cs 0), 133, .inl gsd))]) hP [0, 1] rfl
              refine cl_P (W.runV (As := [.int h]) (rest := []) ⟨hx, hb, hml, hown, hts⟩ (c_M_isHole l D cs m0 mtp sta sru msg mln mcl mcs mrd snx swr snu ste sma sde sli mop sod mst sto mwd msd sx_ mws sun mfr mqu miw sfi swa sdx mim mix mmd gsd h hsi) ⟨callB_of 1 hts (gd_C qq_7_37) rfl rfl rfl (hT _ qq_1_9) (hT _ qq_7_34) (by decide +kernel) (rm_R rfl rfl), (hT _ qq_7_36), (hT _ qs_5_1)⟩ (pq_V hPc hK hN (ci := 10) (q0 := 0) rfl rfl) rfl rfl hl.1 rfl (lv_room (Nat.le_of_ble_eq_true rfl)) dX12_crease_71 ⟨Nat.le_of_ble_eq_true rfl, Nat.le_of_ble_eq_true rfl⟩) (fun v9 hz_101 => ?_)
              obtain ⟨x_100, rfl, r_102⟩ := hz_101
              refine lv_if_eq (tgt := 108) hx hb dX12_crease_74 (by decide) (fun c_103 => ?_) (fun c_103 => ?_)
              · have r_104 : Rg 0 0 x_100 := Rg.eq_l c_103 r_102.1 (Rg.c (c := 0) (k := 0) rfl) (by decide)
                refine lv_bipush (v := (-2)) hx hb dX12_crease_108 (by decide) ?_
                refine W.widen (k := 0) (n := 0) (Nat.le_of_ble_eq_true rfl) (Nat.le_of_ble_eq_true rfl) ?_
                have hP9 := hP.sub (ws' := [(m0, .inr (10, (.ref mtp :: .int sta :: .int sru :: .ref msg :: .ref mln :: .ref mcl :: .ref mcs :: .ref mrd :: .int snx :: .int swr :: .int snu :: .int ste :: .int sma :: .int sde :: .int sli :: .ref mop :: .int sod :: .ref mst :: .int sto :: .ref mwd :: .ref msd :: .int sx_ :: .ref mws :: .int sun :: .ref mfr :: .ref mqu :: .ref miw :: .int sfi :: .int swa :: .long sdx :: .ref mim :: .ref mix :: .ref mmd :: []))), (msd, .inl ((cs 0), 133, .inl gsd))]) [0, 1] rfl
                have hD9 := hD.sub (ws' := [(m0, .inr (10, (.ref mtp :: .int sta :: .int sru :: .ref msg :: .ref mln :: .ref mcl :: .ref mcs :: .ref mrd :: .int snx :: .int swr :: .int snu :: .int ste :: .int sma :: .int sde :: .int sli :: .ref mop :: .int sod :: .ref mst :: .int sto :: .ref mwd :: .ref msd :: .int sx_ :: .ref mws :: .int sun :: .ref mfr :: .ref mqu :: .ref miw :: .int sfi :: .int swa :: .long sdx :: .ref mim :: .ref mix :: .ref mmd :: []))), (msd, .inl ((cs 0), 133, .inl gsd))]) [0, 1] (by decide) rfl
                exact W.iret (v := (-2)) hx hb hr (fun t9 ht9 hW9 => ⟨⟨_, (), rfl, trivial, ⟨gsd, hsi, rfl, by rw [ht9]; exact hP9, hD9⟩⟩, hS.F ht9⟩) hS.2.2 dX12_crease_110
              · have r_105 : Rg 1 1 x_100 := Rg.ne c_103 r_102.1 (Rg.c (c := 0) (k := 0) rfl) (by decide)
                have r_106 : Rg 0 7 h := hb_r (r_102.2.1 c_103) (hsi).a1 (by decide)
                refine lv_iload hx hb dX12_crease_77 (lv_at hl 1 rfl) ?_
                refine lv_if_eq (tgt := 86) hx hb dX12_crease_79 (by decide) (fun c_107 => ?_) (fun c_107 => False.elim (Rg.no_ne c_107 (Rg.c (c := 0) (k := 0) rfl) (Rg.c (c := 0) (k := 0) rfl) (by decide)))
                refine lv_iload hx hb dX12_crease_86 (lv_at hl 0 rfl) ?_
                refine lv_if_eq (tgt := 95) hx hb dX12_crease_88 (by decide) (fun c_108 => False.elim (Rg.no_eq c_108 (Rg.c (c := 1) (k := 1) rfl) (Rg.c (c := 0) (k := 0) rfl) (by decide))) (fun c_108 => ?_)
                refine lv_iload_n hx hb dX12_crease_91 rfl (lv_at hl 4 rfl) ?_
                refine lv_if_ne (tgt := 108) hx hb dX12_crease_92 (by decide) (fun c_109 => ?_) (fun c_109 => ?_)
                · have r_110 : Rg 1 7 b := Rg.ne c_109 r_99 (Rg.c (c := 0) (k := 0) rfl) (by decide)
                  refine lv_bipush (v := (-2)) hx hb dX12_crease_108 (by decide) ?_
                  refine W.widen (k := 0) (n := 0) (Nat.le_of_ble_eq_true rfl) (Nat.le_of_ble_eq_true rfl) ?_
                  have hP9 := hP.sub (ws' := [(m0, .inr (10, (.ref mtp :: .int sta :: .int sru :: .ref msg :: .ref mln :: .ref mcl :: .ref mcs :: .ref mrd :: .int snx :: .int swr :: .int snu :: .int ste :: .int sma :: .int sde :: .int sli :: .ref mop :: .int sod :: .ref mst :: .int sto :: .ref mwd :: .ref msd :: .int sx_ :: .ref mws :: .int sun :: .ref mfr :: .ref mqu :: .ref miw :: .int sfi :: .int swa :: .long sdx :: .ref mim :: .ref mix :: .ref mmd :: []))), (msd, .inl ((cs 0), 133, .inl gsd))]) [0, 1] rfl
                  have hD9 := hD.sub (ws' := [(m0, .inr (10, (.ref mtp :: .int sta :: .int sru :: .ref msg :: .ref mln :: .ref mcl :: .ref mcs :: .ref mrd :: .int snx :: .int swr :: .int snu :: .int ste :: .int sma :: .int sde :: .int sli :: .ref mop :: .int sod :: .ref mst :: .int sto :: .ref mwd :: .ref msd :: .int sx_ :: .ref mws :: .int sun :: .ref mfr :: .ref mqu :: .ref miw :: .int sfi :: .int swa :: .long sdx :: .ref mim :: .ref mix :: .ref mmd :: []))), (msd, .inl ((cs 0), 133, .inl gsd))]) [0, 1] (by decide) rfl
                  exact W.iret (v := (-2)) hx hb hr (fun t9 ht9 hW9 => ⟨⟨_, (), rfl, trivial, ⟨gsd, hsi, rfl, by rw [ht9]; exact hP9, hD9⟩⟩, hS.F ht9⟩) hS.2.2 dX12_crease_110
                · have r_111 : Rg 0 0 b := Rg.eq_l c_109 r_99 (Rg.c (c := 0) (k := 0) rfl) (by decide)
                  refine lv_aload_n hx hb dX12_crease_95 rfl (lv_at hl 2 rfl) ?_
                  refine va_get (D := D) (ci := 10) (v := .ref msd) (C := "WrongHoleModel") (T := TX12) (N := 33) hx hb hts (iq_RX12 _) hown hK hP 0 rfl rfl 20 (by decide) (hT _ qq_5_172) (fun _ h9 => h9) rfl dX12_crease_96 ?_
                  refine lv_sipush (v := 132) hx hb dX12_crease_99 (by decide) ?_
                  have hi_112 : vp_in 132 133 := vi_c rfl
                  refine va_iald hx hb hK hP 1 0 rfl rfl hi_112 dX12_crease_102 ?_
                  refine lv_topi (fun x_113 e_114 => ?_)
                  have r_115 : Rg 0 10 x_113 := Rg.of e_114 (hsi.a132)
                  refine lv_bipush (v := 10) hx hb dX12_crease_103 (by decide) ?_
                  refine lv_icmp_ne (tgt := 111) hx hb dX12_crease_105 (by decide) (fun c_116 => ?_) (fun c_116 => ?_)
                  · have r_117 : Rg 0 9 x_113 := Rg.ne c_116 r_115 (Rg.c (c := 10) (k := 10) rfl) (by decide)
                    refine lv_bipush (v := 102) hx hb dX12_crease_111 (by decide) ?_
                    refine lv_iconst (v := 3) hx hb dX12_crease_113 (by decide) ?_
                    refine lv_aload_n hx hb dX12_crease_114 rfl (lv_at hl 2 rfl) ?_
                    refine va_get (D := D) (ci := 10) (v := .ref msd) (C := "WrongHoleModel") (T := TX12) (N := 33) hx hb hts (iq_RX12 _) hown hK hP 0 rfl rfl 20 (by decide) (hT _ qq_5_172) (fun _ h9 => h9) rfl dX12_crease_115 ?_
                    refine lv_sipush (v := 132) hx hb dX12_crease_118 (by decide) ?_
                    have hi_119 : vp_in 132 133 := vi_c rfl
                    refine va_iald hx hb hK hP 1 0 rfl rfl hi_119 dX12_crease_121 ?_
                    refine lv_topi (fun x_120 e_121 => ?_)
                    have r_122 : Rg 0 10 x_120 := Rg.of e_121 (hsi).a132
                    have r_123 : Rg 0 9 x_120 := Rg.of (e_121.trans e_114.symm) r_117
                    refine lv_imul hx hb dX12_crease_122 ?_
                    refine lv_topi (fun x_124 e_125 => ?_)
                    have r_126 : Rg 0 27 x_124 := Rg.mul (ha := 3) (hb := 9) e_125 (Rg.wk (lo2 := 0) (hi2 := 3) (Rg.c (c := 3) (k := 3) rfl) (by decide)) r_123 (by decide)
                    refine lv_iadd hx hb dX12_crease_123 ?_
                    refine lv_topi (fun x_127 e_128 => ?_)
                    have r_129 : Rg 102 129 x_127 := Rg.add e_128 (Rg.c (c := 102) (k := 102) rfl) r_126 (by decide)
                    refine lv_istore (lv' := [(6, .int x_127), (5, .int 1), (4, .int 0), (0, .ref m0), (1, .int a), (2, .int b), (3, .int h)]) hx hb dX12_crease_124 hl (by decide) rfl (fun ls hl => ?_)
                    refine lv_aload_n hx hb dX12_crease_126 rfl (lv_at hl 3 rfl) ?_
                    refine va_get (D := D) (ci := 10) (v := .ref msd) (C := "WrongHoleModel") (T := TX12) (N := 33) hx hb hts (iq_RX12 _) hown hK hP 0 rfl rfl 20 (by decide) (hT _ qq_5_172) (fun _ h9 => h9) rfl dX12_crease_127 ?_
                    refine lv_iload hx hb dX12_crease_130 (lv_at hl 0 rfl) ?_
                    refine lv_iload_n hx hb dX12_crease_132 rfl (lv_at hl 4 rfl) ?_
                    have hi_130 : vp_in x_127 133 := Rg.in r_129 (by decide)
                    refine va_iast hx hb hK hP hD hS 1 0 rfl rfl hi_130 dX12_crease_133 (fun H locs hP hD hS => ?_)
                    obtain ⟨g_131, rb_132, hP, hD⟩ : ∃ g_131 : Nat → Int32, (SI g_131 ∧ g_131 0 = gsd 0 ∧ g_131 132 = gsd 132) ∧ va_P D vwCl [(m0, .inr (10, (.ref mtp :: .int sta :: .int sru :: .ref msg :: .ref mln :: .ref mcl :: .ref mcs :: .ref mrd :: .int snx :: .int swr :: .int snu :: .int ste :: .int sma :: .int sde :: .int sli :: .ref mop :: .int sod :: .ref mst :: .int sto :: .ref mwd :: .ref msd :: .int sx_ :: .ref mws :: .int sun :: .ref mfr :: .ref mqu :: .ref miw :: .int sfi :: .int swa :: .long sdx :: .ref mim :: .ref mix :: .ref mmd :: []))), (msd, .inl ((cs 0), 133, .inl g_131))] H ∧ va_D A [(m0, .inr (10, (.ref mtp :: .int sta :: .int sru :: .ref msg :: .ref mln :: .ref mcl :: .ref mcs :: .ref mrd :: .int snx :: .int swr :: .int snu :: .int ste :: .int sma :: .int sde :: .int sli :: .ref mop :: .int sod :: .ref mst :: .int sto :: .ref mwd :: .ref msd :: .int sx_ :: .ref mws :: .int sun :: .ref mfr :: .ref mqu :: .ref miw :: .int sfi :: .int swa :: .long sdx :: .ref mim :: .ref mix :: .ref mmd :: []))), (msd, .inl ((cs 0), 133, .inl g_131))] := ⟨_, ⟨si_cr hsi (show 102 ≤ cN x_127 ∧ cN x_127 < 133 from by have h9 := cN_i r_129 (by decide); have h8 := (r_129).1; have h7 := (r_129).2; exact ⟨by omega, by omega⟩) (Rg.wk (lo2 := 0) (hi2 := 7) r_84 (by decide)), (up_n (by have h9 := cN_i r_129 (by decide); have h8 := (r_129).1; show 0 ≠ cN x_127; omega)).trans rfl, (up_n (by have h9 := cN_i r_129 (by decide); have h8 := (r_129).2; show 132 ≠ cN x_127; omega)).trans rfl⟩, hP, hD⟩
                    refine lv_aload_n hx hb dX12_crease_134 rfl (lv_at hl 3 rfl) ?_
                    refine va_get (D := D) (ci := 10) (v := .ref msd) (C := "WrongHoleModel") (T := TX12) (N := 33) hx hb hts (iq_RX12 _) hown hK hP 0 rfl rfl 20 (by decide) (hT _ qq_5_172) (fun _ h9 => h9) rfl dX12_crease_135 ?_
                    refine lv_iload hx hb dX12_crease_138 (lv_at hl 0 rfl) ?_
                    refine lv_iconst (v := 1) hx hb dX12_crease_140 (by decide) ?_
                    refine lv_iadd hx hb dX12_crease_141 ?_
                    refine lv_topi (fun x_133 e_134 => ?_)
                    have r_135 : Rg 103 130 x_133 := Rg.add e_134 r_129 (Rg.c (c := 1) (k := 1) rfl) (by decide)
                    refine lv_iload_n hx hb dX12_crease_142 rfl (lv_at hl 5 rfl) ?_
                    have hi_136 : vp_in x_133 133 := Rg.in r_135 (by decide)
                    refine va_iast hx hb hK hP hD hS 1 0 rfl rfl hi_136 dX12_crease_143 (fun H locs hP hD hS => ?_)
                    obtain ⟨g_137, rb_138, hP, hD⟩ : ∃ g_137 : Nat → Int32, (SI g_137 ∧ g_137 0 = gsd 0 ∧ g_137 132 = gsd 132) ∧ va_P D vwCl [(m0, .inr (10, (.ref mtp :: .int sta :: .int sru :: .ref msg :: .ref mln :: .ref mcl :: .ref mcs :: .ref mrd :: .int snx :: .int swr :: .int snu :: .int ste :: .int sma :: .int sde :: .int sli :: .ref mop :: .int sod :: .ref mst :: .int sto :: .ref mwd :: .ref msd :: .int sx_ :: .ref mws :: .int sun :: .ref mfr :: .ref mqu :: .ref miw :: .int sfi :: .int swa :: .long sdx :: .ref mim :: .ref mix :: .ref mmd :: []))), (msd, .inl ((cs 0), 133, .inl g_137))] H ∧ va_D A [(m0, .inr (10, (.ref mtp :: .int sta :: .int sru :: .ref msg :: .ref mln :: .ref mcl :: .ref mcs :: .ref mrd :: .int snx :: .int swr :: .int snu :: .int ste :: .int sma :: .int sde :: .int sli :: .ref mop :: .int sod :: .ref mst :: .int sto :: .ref mwd :: .ref msd :: .int sx_ :: .ref mws :: .int sun :: .ref mfr :: .ref mqu :: .ref miw :: .int sfi :: .int swa :: .long sdx :: .ref mim :: .ref mix :: .ref mmd :: []))), (msd, .inl ((cs 0), 133, .inl g_137))] := ⟨_, ⟨si_cr rb_132.1 (show 102 ≤ cN x_133 ∧ cN x_133 < 133 from by have h9 := cN_i r_135 (by decide); have h8 := (r_135).1; have h7 := (r_135).2; exact ⟨by omega, by omega⟩) (Rg.wk (lo2 := 0) (hi2 := 7) r_111 (by decide)), (up_n (by have h9 := cN_i r_135 (by decide); have h8 := (r_135).1; show 0 ≠ cN x_133; omega)).trans rb_132.2.1, (up_n (by have h9 := cN_i r_135 (by decide); have h8 := (r_135).2; show 132 ≠ cN x_133; omega)).trans rb_132.2.2⟩, hP, hD⟩
                    refine lv_aload_n hx hb dX12_crease_144 rfl (lv_at hl 3 rfl) ?_
                    refine va_get (D := D) (ci := 10) (v := .ref msd) (C := "WrongHoleModel") (T := TX12) (N := 33) hx hb hts (iq_RX12 _) hown hK hP 0 rfl rfl 20 (by decide) (hT _ qq_5_172) (fun _ h9 => h9) rfl dX12_crease_145 ?_
                    refine lv_iload hx hb dX12_crease_148 (lv_at hl 0 rfl) ?_
                    refine lv_iconst (v := 2) hx hb dX12_crease_150 (by decide) ?_
                    refine lv_iadd hx hb dX12_crease_151 ?_
                    refine lv_topi (fun x_139 e_140 => ?_)
                    have r_141 : Rg 104 131 x_139 := Rg.add e_140 r_129 (Rg.c (c := 2) (k := 2) rfl) (by decide)
                    refine lv_iload_n hx hb dX12_crease_152 rfl (lv_at hl 6 rfl) ?_
                    have hi_142 : vp_in x_139 133 := Rg.in r_141 (by decide)
                    refine va_iast hx hb hK hP hD hS 1 0 rfl rfl hi_142 dX12_crease_153 (fun H locs hP hD hS => ?_)
                    obtain ⟨g_143, rb_144, hP, hD⟩ : ∃ g_143 : Nat → Int32, (SI g_143 ∧ g_143 0 = gsd 0 ∧ g_143 132 = gsd 132) ∧ va_P D vwCl [(m0, .inr (10, (.ref mtp :: .int sta :: .int sru :: .ref msg :: .ref mln :: .ref mcl :: .ref mcs :: .ref mrd :: .int snx :: .int swr :: .int snu :: .int ste :: .int sma :: .int sde :: .int sli :: .ref mop :: .int sod :: .ref mst :: .int sto :: .ref mwd :: .ref msd :: .int sx_ :: .ref mws :: .int sun :: .ref mfr :: .ref mqu :: .ref miw :: .int sfi :: .int swa :: .long sdx :: .ref mim :: .ref mix :: .ref mmd :: []))), (msd, .inl ((cs 0), 133, .inl g_143))] H ∧ va_D A [(m0, .inr (10, (.ref mtp :: .int sta :: .int sru :: .ref msg :: .ref mln :: .ref mcl :: .ref mcs :: .ref mrd :: .int snx :: .int swr :: .int snu :: .int ste :: .int sma :: .int sde :: .int sli :: .ref mop :: .int sod :: .ref mst :: .int sto :: .ref mwd :: .ref msd :: .int sx_ :: .ref mws :: .int sun :: .ref mfr :: .ref mqu :: .ref miw :: .int sfi :: .int swa :: .long sdx :: .ref mim :: .ref mix :: .ref mmd :: []))), (msd, .inl ((cs 0), 133, .inl g_143))] := ⟨_, ⟨si_cr rb_138.1 (show 102 ≤ cN x_139 ∧ cN x_139 < 133 from by have h9 := cN_i r_141 (by decide); have h8 := (r_141).1; have h7 := (r_141).2; exact ⟨by omega, by omega⟩) r_106, (up_n (by have h9 := cN_i r_141 (by decide); have h8 := (r_141).1; show 0 ≠ cN x_139; omega)).trans rb_138.2.1, (up_n (by have h9 := cN_i r_141 (by decide); have h8 := (r_141).2; show 132 ≠ cN x_139; omega)).trans rb_138.2.2⟩, hP, hD⟩
                    refine lv_aload_n hx hb dX12_crease_154 rfl (lv_at hl 3 rfl) ?_
                    refine va_get (D := D) (ci := 10) (v := .ref msd) (C := "WrongHoleModel") (T := TX12) (N := 33) hx hb hts (iq_RX12 _) hown hK hP 0 rfl rfl 20 (by decide) (hT _ qq_5_172) (fun _ h9 => h9) rfl dX12_crease_155 ?_
                    refine lv_sipush (v := 132) hx hb dX12_crease_158 (by decide) ?_
                    refine lv_dup2_11 hx hb dX12_crease_161 rfl rfl ?_
                    have hi_145 : vp_in 132 133 := vi_c rfl
                    refine va_iald hx hb hK hP 1 0 rfl rfl hi_145 dX12_crease_162 ?_
                    refine lv_topi (fun x_146 e_147 => ?_)
                    have r_148 : Rg 0 9 x_146 := Rg.of (e_147.trans (rb_144.2.2.trans e_114.symm)) r_117
                    refine lv_iconst (v := 1) hx hb dX12_crease_163 (by decide) ?_
                    refine lv_iadd hx hb dX12_crease_164 ?_
                    refine lv_topi (fun x_149 e_150 => ?_)
                    have r_151 : Rg 1 10 x_149 := Rg.add e_150 r_148 (Rg.c (c := 1) (k := 1) rfl) (by decide)
                    have hi_152 : vp_in 132 133 := vi_c rfl
                    refine va_iast hx hb hK hP hD hS 1 0 rfl rfl hi_152 dX12_crease_165 (fun H locs hP hD hS => ?_)
                    obtain ⟨g_153, rb_154, hP, hD⟩ : ∃ g_153 : Nat → Int32, (SI g_153 ∧ g_153 0 = gsd 0) ∧ va_P D vwCl [(m0, .inr (10, (.ref mtp :: .int sta :: .int sru :: .ref msg :: .ref mln :: .ref mcl :: .ref mcs :: .ref mrd :: .int snx :: .int swr :: .int snu :: .int ste :: .int sma :: .int sde :: .int sli :: .ref mop :: .int sod :: .ref mst :: .int sto :: .ref mwd :: .ref msd :: .int sx_ :: .ref mws :: .int sun :: .ref mfr :: .ref mqu :: .ref miw :: .int sfi :: .int swa :: .long sdx :: .ref mim :: .ref mix :: .ref mmd :: []))), (msd, .inl ((cs 0), 133, .inl g_153))] H ∧ va_D A [(m0, .inr (10, (.ref mtp :: .int sta :: .int sru :: .ref msg :: .ref mln :: .ref mcl :: .ref mcs :: .ref mrd :: .int snx :: .int swr :: .int snu :: .int ste :: .int sma :: .int sde :: .int sli :: .ref mop :: .int sod :: .ref mst :: .int sto :: .ref mwd :: .ref msd :: .int sx_ :: .ref mws :: .int sun :: .ref mfr :: .ref mqu :: .ref miw :: .int sfi :: .int swa :: .long sdx :: .ref mim :: .ref mix :: .ref mmd :: []))), (msd, .inl ((cs 0), 133, .inl g_153))] := ⟨_, ⟨si_132 rb_144.1 (Rg.wk (lo2 := 0) (hi2 := 10) r_151 (by decide)), (up_n (by decide)).trans rb_144.2.1⟩, hP, hD⟩
                    refine lv_aload_n hx hb dX12_crease_166 rfl (lv_at hl 3 rfl) ?_
                    refine va_get (D := D) (ci := 10) (v := .ref msd) (C := "WrongHoleModel") (T := TX12) (N := 33) hx hb hts (iq_RX12 _) hown hK hP 0 rfl rfl 20 (by decide) (hT _ qq_5_172) (fun _ h9 => h9) rfl dX12_crease_167 ?_
                    refine lv_sipush (v := 132) hx hb dX12_crease_170 (by decide) ?_
                    have hi_155 : vp_in 132 133 := vi_c rfl
                    refine va_iald hx hb hK hP 1 0 rfl rfl hi_155 dX12_crease_173 ?_
                    refine lv_topi (fun x_156 e_157 => ?_)
                    have r_158 : Rg 0 10 x_156 := Rg.of e_157 (rb_154.1.a132)
                    refine W.widen (k := 0) (n := 0) (Nat.le_of_ble_eq_true rfl) (Nat.le_of_ble_eq_true rfl) ?_
                    have hP9 := hP.sub (ws' := [(m0, .inr (10, (.ref mtp :: .int sta :: .int sru :: .ref msg :: .ref mln :: .ref mcl :: .ref mcs :: .ref mrd :: .int snx :: .int swr :: .int snu :: .int ste :: .int sma :: .int sde :: .int sli :: .ref mop :: .int sod :: .ref mst :: .int sto :: .ref mwd :: .ref msd :: .int sx_ :: .ref mws :: .int sun :: .ref mfr :: .ref mqu :: .ref miw :: .int sfi :: .int swa :: .long sdx :: .ref mim :: .ref mix :: .ref mmd :: []))), (msd, .inl ((cs 0), 133, .inl g_153))]) [0, 1] rfl
                    have hD9 := hD.sub (ws' := [(m0, .inr (10, (.ref mtp :: .int sta :: .int sru :: .ref msg :: .ref mln :: .ref mcl :: .ref mcs :: .ref mrd :: .int snx :: .int swr :: .int snu :: .int ste :: .int sma :: .int sde :: .int sli :: .ref mop :: .int sod :: .ref mst :: .int sto :: .ref mwd :: .ref msd :: .int sx_ :: .ref mws :: .int sun :: .ref mfr :: .ref mqu :: .ref miw :: .int sfi :: .int swa :: .long sdx :: .ref mim :: .ref mix :: .ref mmd :: []))), (msd, .inl ((cs 0), 133, .inl g_153))]) [0, 1] (by decide) rfl
                    exact W.iret (v := x_156) hx hb hr (fun t9 ht9 hW9 => ⟨⟨_, (), rfl, trivial, ⟨g_153, rb_154.1, rb_154.2, by rw [ht9]; exact hP9, hD9⟩⟩, hS.F ht9⟩) hS.2.2 dX12_crease_174
                  · have r_118 : Rg 10 10 x_113 := Rg.eq_l c_116 r_115 (Rg.c (c := 10) (k := 10) rfl) (by decide)
                    refine lv_bipush (v := (-2)) hx hb dX12_crease_108 (by decide) ?_
                    refine W.widen (k := 0) (n := 0) (Nat.le_of_ble_eq_true rfl) (Nat.le_of_ble_eq_true rfl) ?_
                    have hP9 := hP.sub (ws' := [(m0, .inr (10, (.ref mtp :: .int sta :: .int sru :: .ref msg :: .ref mln :: .ref mcl :: .ref mcs :: .ref mrd :: .int snx :: .int swr :: .int snu :: .int ste :: .int sma :: .int sde :: .int sli :: .ref mop :: .int sod :: .ref mst :: .int sto :: .ref mwd :: .ref msd :: .int sx_ :: .ref mws :: .int sun :: .ref mfr :: .ref mqu :: .ref miw :: .int sfi :: .int swa :: .long sdx :: .ref mim :: .ref mix :: .ref mmd :: []))), (msd, .inl ((cs 0), 133, .inl gsd))]) [0, 1] rfl
                    have hD9 := hD.sub (ws' := [(m0, .inr (10, (.ref mtp :: .int sta :: .int sru :: .ref msg :: .ref mln :: .ref mcl :: .ref mcs :: .ref mrd :: .int snx :: .int swr :: .int snu :: .int ste :: .int sma :: .int sde :: .int sli :: .ref mop :: .int sod :: .ref mst :: .int sto :: .ref mwd :: .ref msd :: .int sx_ :: .ref mws :: .int sun :: .ref mfr :: .ref mqu :: .ref miw :: .int sfi :: .int swa :: .long sdx :: .ref mim :: .ref mix :: .ref mmd :: []))), (msd, .inl ((cs 0), 133, .inl gsd))]) [0, 1] (by decide) rfl
                    exact W.iret (v := (-2)) hx hb hr (fun t9 ht9 hW9 => ⟨⟨_, (), rfl, trivial, ⟨gsd, hsi, rfl, by rw [ht9]; exact hP9, hD9⟩⟩, hS.F ht9⟩) hS.2.2 dX12_crease_110
        · refine lv_iload_n hx hb dX12_crease_37 rfl (lv_at hl 2 rfl) ?_
          refine lv_iconst (v := 3) hx hb dX12_crease_38 (by decide) ?_
          refine lv_icmp_ne (tgt := 46) hx hb dX12_crease_39 (by decide) (fun c_159 => ?_) (fun c_159 => ?_)
          · refine lv_iconst (v := 0) hx hb dX12_crease_46 (by decide) ?_
            refine lv_istore (lv' := [(5, .int 0), (4, .int 0), (0, .ref m0), (1, .int a), (2, .int b), (3, .int h)]) hx hb dX12_crease_47 hl (by decide) rfl (fun ls hl => ?_)
            refine lv_iload_n hx hb dX12_crease_49 rfl (lv_at hl 3 rfl) ?_
            refine lv_i2l (v := Int32.toInt64 a) hx hb dX12_crease_50 rfl ?_
            refine lv_topl (fun x_161 e_162 => ?_)
            refine lv_lconst (v := 0) hx hb dX12_crease_51 (by decide) ?_
            refine lv_ldc2 (v := 5) hx hb hown (hT _ qq_7_47) dX12_crease_52 ?_
            have hPc := va_P.sub (ws' := []) hP [] rfl
            refine cl_P (W.runS (As := [.long x_161, .long 0, .long 5]) (rest := []) ⟨hx, hb, hml, hown, hts⟩ (c_M_in l D cs x_161 0 5) ⟨callB_of 3 hts (gd_C qq_6_97) rfl rfl rfl (hT _ qq_1_9) (hT _ qq_6_95) (by decide +kernel) (rm_R rfl rfl), (hT _ qq_6_96)⟩ (pq_S hPc hK hN) rfl rfl hl.1 rfl (lv_room (Nat.le_of_ble_eq_true rfl)) dX12_crease_55 ⟨Nat.le_of_ble_eq_true rfl, Nat.le_of_ble_eq_true rfl⟩) (fun v9 hz_164 => ?_)
            obtain ⟨x_163, rfl, r_165⟩ := hz_164
            refine lv_if_eq (tgt := 108) hx hb dX12_crease_58 (by decide) (fun c_166 => ?_) (fun c_166 => ?_)
            · have r_167 : Rg 0 0 x_163 := Rg.eq_l c_166 r_165.1 (Rg.c (c := 0) (k := 0) rfl) (by decide)
              refine lv_bipush (v := (-2)) hx hb dX12_crease_108 (by decide) ?_
              refine W.widen (k := 0) (n := 0) (Nat.le_of_ble_eq_true rfl) (Nat.le_of_ble_eq_true rfl) ?_
              have hP9 := hP.sub (ws' := [(m0, .inr (10, (.ref mtp :: .int sta :: .int sru :: .ref msg :: .ref mln :: .ref mcl :: .ref mcs :: .ref mrd :: .int snx :: .int swr :: .int snu :: .int ste :: .int sma :: .int sde :: .int sli :: .ref mop :: .int sod :: .ref mst :: .int sto :: .ref mwd :: .ref msd :: .int sx_ :: .ref mws :: .int sun :: .ref mfr :: .ref mqu :: .ref miw :: .int sfi :: .int swa :: .long sdx :: .ref mim :: .ref mix :: .ref mmd :: []))), (msd, .inl ((cs 0), 133, .inl gsd))]) [0, 1] rfl
              have hD9 := hD.sub (ws' := [(m0, .inr (10, (.ref mtp :: .int sta :: .int sru :: .ref msg :: .ref mln :: .ref mcl :: .ref mcs :: .ref mrd :: .int snx :: .int swr :: .int snu :: .int ste :: .int sma :: .int sde :: .int sli :: .ref mop :: .int sod :: .ref mst :: .int sto :: .ref mwd :: .ref msd :: .int sx_ :: .ref mws :: .int sun :: .ref mfr :: .ref mqu :: .ref miw :: .int sfi :: .int swa :: .long sdx :: .ref mim :: .ref mix :: .ref mmd :: []))), (msd, .inl ((cs 0), 133, .inl gsd))]) [0, 1] (by decide) rfl
              exact W.iret (v := (-2)) hx hb hr (fun t9 ht9 hW9 => ⟨⟨_, (), rfl, trivial, ⟨gsd, hsi, rfl, by rw [ht9]; exact hP9, hD9⟩⟩, hS.F ht9⟩) hS.2.2 dX12_crease_110
            · have r_168 : Rg 1 1 x_163 := Rg.ne c_166 r_165.1 (Rg.c (c := 0) (k := 0) rfl) (by decide)
              have r_169 : Rg 0 5 a := in_rg e_162 (r_165.2 c_166) (by decide) (by decide)
              refine lv_aload_n hx hb dX12_crease_61 rfl (lv_at hl 2 rfl) ?_
              refine lv_iload_n hx hb dX12_crease_62 rfl (lv_at hl 4 rfl) ?_
              have hPc := va_P.sub (ws' := [(m0, .inr (10, (.ref mtp :: .int sta :: .int sru :: .ref msg :: .ref mln :: .ref mcl :: .ref mcs :: .ref mrd :: .int snx :: .int swr :: .int snu :: .int ste :: .int sma :: .int sde :: .int sli :: .ref mop :: .int sod :: .ref mst :: .int sto :: .ref mwd :: .ref msd :: .int sx_ :: .ref mws :: .int sun :: .ref mfr :: .ref mqu :: .ref miw :: .int sfi :: .int swa :: .long sdx :: .ref mim :: .ref mix :: .ref mmd :: []))), (msd, .inl ((cs 0), 133, .inl gsd))]) hP [0, 1] rfl
              refine cl_P (W.runV (As := [.int b]) (rest := []) ⟨hx, hb, hml, hown, hts⟩ (c_M_isButton l D cs m0 mtp sta sru msg mln mcl mcs mrd snx swr snu ste sma sde sli mop sod mst sto mwd msd sx_ mws sun mfr mqu miw sfi swa sdx mim mix mmd gsd b hsi) ⟨callB_of 1 hts (gd_C qq_7_4) rfl rfl rfl (hT _ qq_1_9) (hT _ qq_7_1) (by decide +kernel) (rm_R rfl rfl), (hT _ qq_7_3), (hT _ qs_4_10)⟩ (pq_V hPc hK hN (ci := 10) (q0 := 0) rfl rfl) rfl rfl hl.1 rfl (lv_room (Nat.le_of_ble_eq_true rfl)) dX12_crease_63 ⟨Nat.le_of_ble_eq_true rfl, Nat.le_of_ble_eq_true rfl⟩) (fun v9 hz_171 => ?_)
              obtain ⟨x_170, rfl, r_172⟩ := hz_171
              refine lv_if_eq (tgt := 108) hx hb dX12_crease_66 (by decide) (fun c_173 => ?_) (fun c_173 => ?_)
              · have r_174 : Rg 0 0 x_170 := Rg.eq_l c_173 r_172.1 (Rg.c (c := 0) (k := 0) rfl) (by decide)
                refine lv_bipush (v := (-2)) hx hb dX12_crease_108 (by decide) ?_
                refine W.widen (k := 0) (n := 0) (Nat.le_of_ble_eq_true rfl) (Nat.le_of_ble_eq_true rfl) ?_
                have hP9 := hP.sub (ws' := [(m0, .inr (10, (.ref mtp :: .int sta :: .int sru :: .ref msg :: .ref mln :: .ref mcl :: .ref mcs :: .ref mrd :: .int snx :: .int swr :: .int snu :: .int ste :: .int sma :: .int sde :: .int sli :: .ref mop :: .int sod :: .ref mst :: .int sto :: .ref mwd :: .ref msd :: .int sx_ :: .ref mws :: .int sun :: .ref mfr :: .ref mqu :: .ref miw :: .int sfi :: .int swa :: .long sdx :: .ref mim :: .ref mix :: .ref mmd :: []))), (msd, .inl ((cs 0), 133, .inl gsd))]) [0, 1] rfl
                have hD9 := hD.sub (ws' := [(m0, .inr (10, (.ref mtp :: .int sta :: .int sru :: .ref msg :: .ref mln :: .ref mcl :: .ref mcs :: .ref mrd :: .int snx :: .int swr :: .int snu :: .int ste :: .int sma :: .int sde :: .int sli :: .ref mop :: .int sod :: .ref mst :: .int sto :: .ref mwd :: .ref msd :: .int sx_ :: .ref mws :: .int sun :: .ref mfr :: .ref mqu :: .ref miw :: .int sfi :: .int swa :: .long sdx :: .ref mim :: .ref mix :: .ref mmd :: []))), (msd, .inl ((cs 0), 133, .inl gsd))]) [0, 1] (by decide) rfl
                exact W.iret (v := (-2)) hx hb hr (fun t9 ht9 hW9 => ⟨⟨_, (), rfl, trivial, ⟨gsd, hsi, rfl, by rw [ht9]; exact hP9, hD9⟩⟩, hS.F ht9⟩) hS.2.2 dX12_crease_110
              · have r_175 : Rg 1 1 x_170 := Rg.ne c_173 r_172.1 (Rg.c (c := 0) (k := 0) rfl) (by decide)
                have r_176 : Rg 0 7 b := hb_r (r_172.2.1 c_173) (hsi).a0 (by decide)
                refine lv_aload_n hx hb dX12_crease_69 rfl (lv_at hl 2 rfl) ?_
                refine lv_iload_n hx hb dX12_crease_70 rfl (lv_at hl 5 rfl) ?_
                have hPc := va_P.sub (ws' := [(m0, .inr (10, (.ref mtp :: .int sta :: .int sru :: .ref msg :: .ref mln :: .ref mcl :: .ref mcs :: .ref mrd :: .int snx :: .int swr :: .int snu :: .int ste :: .int sma :: .int sde :: .int sli :: .ref mop :: .int sod :: .ref mst :: .int sto :: .ref mwd :: .ref msd :: .int sx_ :: .ref mws :: .int sun :: .ref mfr :: .ref mqu :: .ref miw :: .int sfi :: .int swa :: .long sdx :: .ref mim :: .ref mix :: .ref mmd :: []))), (msd, .inl ((cs 0), 133, .inl gsd))]) hP [0, 1] rfl
                refine cl_P (W.runV (As := [.int h]) (rest := []) ⟨hx, hb, hml, hown, hts⟩ (c_M_isHole l D cs m0 mtp sta sru msg mln mcl mcs mrd snx swr snu ste sma sde sli mop sod mst sto mwd msd sx_ mws sun mfr mqu miw sfi swa sdx mim mix mmd gsd h hsi) ⟨callB_of 1 hts (gd_C qq_7_37) rfl rfl rfl (hT _ qq_1_9) (hT _ qq_7_34) (by decide +kernel) (rm_R rfl rfl), (hT _ qq_7_36), (hT _ qs_5_1)⟩ (pq_V hPc hK hN (ci := 10) (q0 := 0) rfl rfl) rfl rfl hl.1 rfl (lv_room (Nat.le_of_ble_eq_true rfl)) dX12_crease_71 ⟨Nat.le_of_ble_eq_true rfl, Nat.le_of_ble_eq_true rfl⟩) (fun v9 hz_178 => ?_)
                obtain ⟨x_177, rfl, r_179⟩ := hz_178
                refine lv_if_eq (tgt := 108) hx hb dX12_crease_74 (by decide) (fun c_180 => ?_) (fun c_180 => ?_)
                · have r_181 : Rg 0 0 x_177 := Rg.eq_l c_180 r_179.1 (Rg.c (c := 0) (k := 0) rfl) (by decide)
                  refine lv_bipush (v := (-2)) hx hb dX12_crease_108 (by decide) ?_
                  refine W.widen (k := 0) (n := 0) (Nat.le_of_ble_eq_true rfl) (Nat.le_of_ble_eq_true rfl) ?_
                  have hP9 := hP.sub (ws' := [(m0, .inr (10, (.ref mtp :: .int sta :: .int sru :: .ref msg :: .ref mln :: .ref mcl :: .ref mcs :: .ref mrd :: .int snx :: .int swr :: .int snu :: .int ste :: .int sma :: .int sde :: .int sli :: .ref mop :: .int sod :: .ref mst :: .int sto :: .ref mwd :: .ref msd :: .int sx_ :: .ref mws :: .int sun :: .ref mfr :: .ref mqu :: .ref miw :: .int sfi :: .int swa :: .long sdx :: .ref mim :: .ref mix :: .ref mmd :: []))), (msd, .inl ((cs 0), 133, .inl gsd))]) [0, 1] rfl
                  have hD9 := hD.sub (ws' := [(m0, .inr (10, (.ref mtp :: .int sta :: .int sru :: .ref msg :: .ref mln :: .ref mcl :: .ref mcs :: .ref mrd :: .int snx :: .int swr :: .int snu :: .int ste :: .int sma :: .int sde :: .int sli :: .ref mop :: .int sod :: .ref mst :: .int sto :: .ref mwd :: .ref msd :: .int sx_ :: .ref mws :: .int sun :: .ref mfr :: .ref mqu :: .ref miw :: .int sfi :: .int swa :: .long sdx :: .ref mim :: .ref mix :: .ref mmd :: []))), (msd, .inl ((cs 0), 133, .inl gsd))]) [0, 1] (by decide) rfl
                  exact W.iret (v := (-2)) hx hb hr (fun t9 ht9 hW9 => ⟨⟨_, (), rfl, trivial, ⟨gsd, hsi, rfl, by rw [ht9]; exact hP9, hD9⟩⟩, hS.F ht9⟩) hS.2.2 dX12_crease_110
                · have r_182 : Rg 1 1 x_177 := Rg.ne c_180 r_179.1 (Rg.c (c := 0) (k := 0) rfl) (by decide)
                  have r_183 : Rg 0 7 h := hb_r (r_179.2.1 c_180) (hsi).a1 (by decide)
                  refine lv_iload hx hb dX12_crease_77 (lv_at hl 1 rfl) ?_
                  refine lv_if_eq (tgt := 86) hx hb dX12_crease_79 (by decide) (fun c_184 => ?_) (fun c_184 => False.elim (Rg.no_ne c_184 (Rg.c (c := 0) (k := 0) rfl) (Rg.c (c := 0) (k := 0) rfl) (by decide)))
                  refine lv_iload hx hb dX12_crease_86 (lv_at hl 0 rfl) ?_
                  refine lv_if_eq (tgt := 95) hx hb dX12_crease_88 (by decide) (fun c_185 => ?_) (fun c_185 => False.elim (Rg.no_ne c_185 (Rg.c (c := 0) (k := 0) rfl) (Rg.c (c := 0) (k := 0) rfl) (by decide)))
                  refine lv_aload_n hx hb dX12_crease_95 rfl (lv_at hl 2 rfl) ?_
                  refine va_get (D := D) (ci := 10) (v := .ref msd) (C := "WrongHoleModel") (T := TX12) (N := 33) hx hb hts (iq_RX12 _) hown hK hP 0 rfl rfl 20 (by decide) (hT _ qq_5_172) (fun _ h9 => h9) rfl dX12_crease_96 ?_
                  refine lv_sipush (v := 132) hx hb dX12_crease_99 (by decide) ?_
                  have hi_186 : vp_in 132 133 := vi_c rfl
                  refine va_iald hx hb hK hP 1 0 rfl rfl hi_186 dX12_crease_102 ?_
                  refine lv_topi (fun x_187 e_188 => ?_)
                  have r_189 : Rg 0 10 x_187 := Rg.of e_188 (hsi.a132)
                  refine lv_bipush (v := 10) hx hb dX12_crease_103 (by decide) ?_
                  refine lv_icmp_ne (tgt := 111) hx hb dX12_crease_105 (by decide) (fun c_190 => ?_) (fun c_190 => ?_)
                  · have r_191 : Rg 0 9 x_187 := Rg.ne c_190 r_189 (Rg.c (c := 10) (k := 10) rfl) (by decide)
                    refine lv_bipush (v := 102) hx hb dX12_crease_111 (by decide) ?_
                    refine lv_iconst (v := 3) hx hb dX12_crease_113 (by decide) ?_
                    refine lv_aload_n hx hb dX12_crease_114 rfl (lv_at hl 2 rfl) ?_
                    refine va_get (D := D) (ci := 10) (v := .ref msd) (C := "WrongHoleModel") (T := TX12) (N := 33) hx hb hts (iq_RX12 _) hown hK hP 0 rfl rfl 20 (by decide) (hT _ qq_5_172) (fun _ h9 => h9) rfl dX12_crease_115 ?_
                    refine lv_sipush (v := 132) hx hb dX12_crease_118 (by decide) ?_
                    have hi_193 : vp_in 132 133 := vi_c rfl
                    refine va_iald hx hb hK hP 1 0 rfl rfl hi_193 dX12_crease_121 ?_
                    refine lv_topi (fun x_194 e_195 => ?_)
                    have r_196 : Rg 0 10 x_194 := Rg.of e_195 (hsi).a132
                    have r_197 : Rg 0 9 x_194 := Rg.of (e_195.trans e_188.symm) r_191
                    refine lv_imul hx hb dX12_crease_122 ?_
                    refine lv_topi (fun x_198 e_199 => ?_)
                    have r_200 : Rg 0 27 x_198 := Rg.mul (ha := 3) (hb := 9) e_199 (Rg.wk (lo2 := 0) (hi2 := 3) (Rg.c (c := 3) (k := 3) rfl) (by decide)) r_197 (by decide)
                    refine lv_iadd hx hb dX12_crease_123 ?_
                    refine lv_topi (fun x_201 e_202 => ?_)
                    have r_203 : Rg 102 129 x_201 := Rg.add e_202 (Rg.c (c := 102) (k := 102) rfl) r_200 (by decide)
                    refine lv_istore (lv' := [(6, .int x_201), (5, .int 0), (4, .int 0), (0, .ref m0), (1, .int a), (2, .int b), (3, .int h)]) hx hb dX12_crease_124 hl (by decide) rfl (fun ls hl => ?_)
                    refine lv_aload_n hx hb dX12_crease_126 rfl (lv_at hl 3 rfl) ?_
                    refine va_get (D := D) (ci := 10) (v := .ref msd) (C := "WrongHoleModel") (T := TX12) (N := 33) hx hb hts (iq_RX12 _) hown hK hP 0 rfl rfl 20 (by decide) (hT _ qq_5_172) (fun _ h9 => h9) rfl dX12_crease_127 ?_
                    refine lv_iload hx hb dX12_crease_130 (lv_at hl 0 rfl) ?_
                    refine lv_iload_n hx hb dX12_crease_132 rfl (lv_at hl 4 rfl) ?_
                    have hi_204 : vp_in x_201 133 := Rg.in r_203 (by decide)
                    refine va_iast hx hb hK hP hD hS 1 0 rfl rfl hi_204 dX12_crease_133 (fun H locs hP hD hS => ?_)
                    obtain ⟨g_205, rb_206, hP, hD⟩ : ∃ g_205 : Nat → Int32, (SI g_205 ∧ g_205 0 = gsd 0 ∧ g_205 132 = gsd 132) ∧ va_P D vwCl [(m0, .inr (10, (.ref mtp :: .int sta :: .int sru :: .ref msg :: .ref mln :: .ref mcl :: .ref mcs :: .ref mrd :: .int snx :: .int swr :: .int snu :: .int ste :: .int sma :: .int sde :: .int sli :: .ref mop :: .int sod :: .ref mst :: .int sto :: .ref mwd :: .ref msd :: .int sx_ :: .ref mws :: .int sun :: .ref mfr :: .ref mqu :: .ref miw :: .int sfi :: .int swa :: .long sdx :: .ref mim :: .ref mix :: .ref mmd :: []))), (msd, .inl ((cs 0), 133, .inl g_205))] H ∧ va_D A [(m0, .inr (10, (.ref mtp :: .int sta :: .int sru :: .ref msg :: .ref mln :: .ref mcl :: .ref mcs :: .ref mrd :: .int snx :: .int swr :: .int snu :: .int ste :: .int sma :: .int sde :: .int sli :: .ref mop :: .int sod :: .ref mst :: .int sto :: .ref mwd :: .ref msd :: .int sx_ :: .ref mws :: .int sun :: .ref mfr :: .ref mqu :: .ref miw :: .int sfi :: .int swa :: .long sdx :: .ref mim :: .ref mix :: .ref mmd :: []))), (msd, .inl ((cs 0), 133, .inl g_205))] := ⟨_, ⟨si_cr hsi (show 102 ≤ cN x_201 ∧ cN x_201 < 133 from by have h9 := cN_i r_203 (by decide); have h8 := (r_203).1; have h7 := (r_203).2; exact ⟨by omega, by omega⟩) (Rg.wk (lo2 := 0) (hi2 := 7) r_169 (by decide)), (up_n (by have h9 := cN_i r_203 (by decide); have h8 := (r_203).1; show 0 ≠ cN x_201; omega)).trans rfl, (up_n (by have h9 := cN_i r_203 (by decide); have h8 := (r_203).2; show 132 ≠ cN x_201; omega)).trans rfl⟩, hP, hD⟩
                    refine lv_aload_n hx hb dX12_crease_134 rfl (lv_at hl 3 rfl) ?_
                    refine va_get (D := D) (ci := 10) (v := .ref msd) (C := "WrongHoleModel") (T := TX12) (N := 33) hx hb hts (iq_RX12 _) hown hK hP 0 rfl rfl 20 (by decide) (hT _ qq_5_172) (fun _ h9 => h9) rfl dX12_crease_135 ?_
                    refine lv_iload hx hb dX12_crease_138 (lv_at hl 0 rfl) ?_
                    refine lv_iconst (v := 1) hx hb dX12_crease_140 (by decide) ?_
                    refine lv_iadd hx hb dX12_crease_141 ?_
                    refine lv_topi (fun x_207 e_208 => ?_)
                    have r_209 : Rg 103 130 x_207 := Rg.add e_208 r_203 (Rg.c (c := 1) (k := 1) rfl) (by decide)
                    refine lv_iload_n hx hb dX12_crease_142 rfl (lv_at hl 5 rfl) ?_
                    have hi_210 : vp_in x_207 133 := Rg.in r_209 (by decide)
                    refine va_iast hx hb hK hP hD hS 1 0 rfl rfl hi_210 dX12_crease_143 (fun H locs hP hD hS => ?_)
                    obtain ⟨g_211, rb_212, hP, hD⟩ : ∃ g_211 : Nat → Int32, (SI g_211 ∧ g_211 0 = gsd 0 ∧ g_211 132 = gsd 132) ∧ va_P D vwCl [(m0, .inr (10, (.ref mtp :: .int sta :: .int sru :: .ref msg :: .ref mln :: .ref mcl :: .ref mcs :: .ref mrd :: .int snx :: .int swr :: .int snu :: .int ste :: .int sma :: .int sde :: .int sli :: .ref mop :: .int sod :: .ref mst :: .int sto :: .ref mwd :: .ref msd :: .int sx_ :: .ref mws :: .int sun :: .ref mfr :: .ref mqu :: .ref miw :: .int sfi :: .int swa :: .long sdx :: .ref mim :: .ref mix :: .ref mmd :: []))), (msd, .inl ((cs 0), 133, .inl g_211))] H ∧ va_D A [(m0, .inr (10, (.ref mtp :: .int sta :: .int sru :: .ref msg :: .ref mln :: .ref mcl :: .ref mcs :: .ref mrd :: .int snx :: .int swr :: .int snu :: .int ste :: .int sma :: .int sde :: .int sli :: .ref mop :: .int sod :: .ref mst :: .int sto :: .ref mwd :: .ref msd :: .int sx_ :: .ref mws :: .int sun :: .ref mfr :: .ref mqu :: .ref miw :: .int sfi :: .int swa :: .long sdx :: .ref mim :: .ref mix :: .ref mmd :: []))), (msd, .inl ((cs 0), 133, .inl g_211))] := ⟨_, ⟨si_cr rb_206.1 (show 102 ≤ cN x_207 ∧ cN x_207 < 133 from by have h9 := cN_i r_209 (by decide); have h8 := (r_209).1; have h7 := (r_209).2; exact ⟨by omega, by omega⟩) r_176, (up_n (by have h9 := cN_i r_209 (by decide); have h8 := (r_209).1; show 0 ≠ cN x_207; omega)).trans rb_206.2.1, (up_n (by have h9 := cN_i r_209 (by decide); have h8 := (r_209).2; show 132 ≠ cN x_207; omega)).trans rb_206.2.2⟩, hP, hD⟩
                    refine lv_aload_n hx hb dX12_crease_144 rfl (lv_at hl 3 rfl) ?_
                    refine va_get (D := D) (ci := 10) (v := .ref msd) (C := "WrongHoleModel") (T := TX12) (N := 33) hx hb hts (iq_RX12 _) hown hK hP 0 rfl rfl 20 (by decide) (hT _ qq_5_172) (fun _ h9 => h9) rfl dX12_crease_145 ?_
                    refine lv_iload hx hb dX12_crease_148 (lv_at hl 0 rfl) ?_
                    refine lv_iconst (v := 2) hx hb dX12_crease_150 (by decide) ?_
                    refine lv_iadd hx hb dX12_crease_151 ?_
                    refine lv_topi (fun x_213 e_214 => ?_)
                    have r_215 : Rg 104 131 x_213 := Rg.add e_214 r_203 (Rg.c (c := 2) (k := 2) rfl) (by decide)
                    refine lv_iload_n hx hb dX12_crease_152 rfl (lv_at hl 6 rfl) ?_
                    have hi_216 : vp_in x_213 133 := Rg.in r_215 (by decide)
                    refine va_iast hx hb hK hP hD hS 1 0 rfl rfl hi_216 dX12_crease_153 (fun H locs hP hD hS => ?_)
                    obtain ⟨g_217, rb_218, hP, hD⟩ : ∃ g_217 : Nat → Int32, (SI g_217 ∧ g_217 0 = gsd 0 ∧ g_217 132 = gsd 132) ∧ va_P D vwCl [(m0, .inr (10, (.ref mtp :: .int sta :: .int sru :: .ref msg :: .ref mln :: .ref mcl :: .ref mcs :: .ref mrd :: .int snx :: .int swr :: .int snu :: .int ste :: .int sma :: .int sde :: .int sli :: .ref mop :: .int sod :: .ref mst :: .int sto :: .ref mwd :: .ref msd :: .int sx_ :: .ref mws :: .int sun :: .ref mfr :: .ref mqu :: .ref miw :: .int sfi :: .int swa :: .long sdx :: .ref mim :: .ref mix :: .ref mmd :: []))), (msd, .inl ((cs 0), 133, .inl g_217))] H ∧ va_D A [(m0, .inr (10, (.ref mtp :: .int sta :: .int sru :: .ref msg :: .ref mln :: .ref mcl :: .ref mcs :: .ref mrd :: .int snx :: .int swr :: .int snu :: .int ste :: .int sma :: .int sde :: .int sli :: .ref mop :: .int sod :: .ref mst :: .int sto :: .ref mwd :: .ref msd :: .int sx_ :: .ref mws :: .int sun :: .ref mfr :: .ref mqu :: .ref miw :: .int sfi :: .int swa :: .long sdx :: .ref mim :: .ref mix :: .ref mmd :: []))), (msd, .inl ((cs 0), 133, .inl g_217))] := ⟨_, ⟨si_cr rb_212.1 (show 102 ≤ cN x_213 ∧ cN x_213 < 133 from by have h9 := cN_i r_215 (by decide); have h8 := (r_215).1; have h7 := (r_215).2; exact ⟨by omega, by omega⟩) r_183, (up_n (by have h9 := cN_i r_215 (by decide); have h8 := (r_215).1; show 0 ≠ cN x_213; omega)).trans rb_212.2.1, (up_n (by have h9 := cN_i r_215 (by decide); have h8 := (r_215).2; show 132 ≠ cN x_213; omega)).trans rb_212.2.2⟩, hP, hD⟩
                    refine lv_aload_n hx hb dX12_crease_154 rfl (lv_at hl 3 rfl) ?_
                    refine va_get (D := D) (ci := 10) (v := .ref msd) (C := "WrongHoleModel") (T := TX12) (N := 33) hx hb hts (iq_RX12 _) hown hK hP 0 rfl rfl 20 (by decide) (hT _ qq_5_172) (fun _ h9 => h9) rfl dX12_crease_155 ?_
                    refine lv_sipush (v := 132) hx hb dX12_crease_158 (by decide) ?_
                    refine lv_dup2_11 hx hb dX12_crease_161 rfl rfl ?_
                    have hi_219 : vp_in 132 133 := vi_c rfl
                    refine va_iald hx hb hK hP 1 0 rfl rfl hi_219 dX12_crease_162 ?_
                    refine lv_topi (fun x_220 e_221 => ?_)
                    have r_222 : Rg 0 9 x_220 := Rg.of (e_221.trans (rb_218.2.2.trans e_188.symm)) r_191
                    refine lv_iconst (v := 1) hx hb dX12_crease_163 (by decide) ?_
                    refine lv_iadd hx hb dX12_crease_164 ?_
                    refine lv_topi (fun x_223 e_224 => ?_)
                    have r_225 : Rg 1 10 x_223 := Rg.add e_224 r_222 (Rg.c (c := 1) (k := 1) rfl) (by decide)
                    have hi_226 : vp_in 132 133 := vi_c rfl
                    refine va_iast hx hb hK hP hD hS 1 0 rfl rfl hi_226 dX12_crease_165 (fun H locs hP hD hS => ?_)
                    obtain ⟨g_227, rb_228, hP, hD⟩ : ∃ g_227 : Nat → Int32, (SI g_227 ∧ g_227 0 = gsd 0) ∧ va_P D vwCl [(m0, .inr (10, (.ref mtp :: .int sta :: .int sru :: .ref msg :: .ref mln :: .ref mcl :: .ref mcs :: .ref mrd :: .int snx :: .int swr :: .int snu :: .int ste :: .int sma :: .int sde :: .int sli :: .ref mop :: .int sod :: .ref mst :: .int sto :: .ref mwd :: .ref msd :: .int sx_ :: .ref mws :: .int sun :: .ref mfr :: .ref mqu :: .ref miw :: .int sfi :: .int swa :: .long sdx :: .ref mim :: .ref mix :: .ref mmd :: []))), (msd, .inl ((cs 0), 133, .inl g_227))] H ∧ va_D A [(m0, .inr (10, (.ref mtp :: .int sta :: .int sru :: .ref msg :: .ref mln :: .ref mcl :: .ref mcs :: .ref mrd :: .int snx :: .int swr :: .int snu :: .int ste :: .int sma :: .int sde :: .int sli :: .ref mop :: .int sod :: .ref mst :: .int sto :: .ref mwd :: .ref msd :: .int sx_ :: .ref mws :: .int sun :: .ref mfr :: .ref mqu :: .ref miw :: .int sfi :: .int swa :: .long sdx :: .ref mim :: .ref mix :: .ref mmd :: []))), (msd, .inl ((cs 0), 133, .inl g_227))] := ⟨_, ⟨si_132 rb_218.1 (Rg.wk (lo2 := 0) (hi2 := 10) r_225 (by decide)), (up_n (by decide)).trans rb_218.2.1⟩, hP, hD⟩
                    refine lv_aload_n hx hb dX12_crease_166 rfl (lv_at hl 3 rfl) ?_
                    refine va_get (D := D) (ci := 10) (v := .ref msd) (C := "WrongHoleModel") (T := TX12) (N := 33) hx hb hts (iq_RX12 _) hown hK hP 0 rfl rfl 20 (by decide) (hT _ qq_5_172) (fun _ h9 => h9) rfl dX12_crease_167 ?_
                    refine lv_sipush (v := 132) hx hb dX12_crease_170 (by decide) ?_
                    have hi_229 : vp_in 132 133 := vi_c rfl
                    refine va_iald hx hb hK hP 1 0 rfl rfl hi_229 dX12_crease_173 ?_
                    refine lv_topi (fun x_230 e_231 => ?_)
                    have r_232 : Rg 0 10 x_230 := Rg.of e_231 (rb_228.1.a132)
                    refine W.widen (k := 0) (n := 0) (Nat.le_of_ble_eq_true rfl) (Nat.le_of_ble_eq_true rfl) ?_
                    have hP9 := hP.sub (ws' := [(m0, .inr (10, (.ref mtp :: .int sta :: .int sru :: .ref msg :: .ref mln :: .ref mcl :: .ref mcs :: .ref mrd :: .int snx :: .int swr :: .int snu :: .int ste :: .int sma :: .int sde :: .int sli :: .ref mop :: .int sod :: .ref mst :: .int sto :: .ref mwd :: .ref msd :: .int sx_ :: .ref mws :: .int sun :: .ref mfr :: .ref mqu :: .ref miw :: .int sfi :: .int swa :: .long sdx :: .ref mim :: .ref mix :: .ref mmd :: []))), (msd, .inl ((cs 0), 133, .inl g_227))]) [0, 1] rfl
                    have hD9 := hD.sub (ws' := [(m0, .inr (10, (.ref mtp :: .int sta :: .int sru :: .ref msg :: .ref mln :: .ref mcl :: .ref mcs :: .ref mrd :: .int snx :: .int swr :: .int snu :: .int ste :: .int sma :: .int sde :: .int sli :: .ref mop :: .int sod :: .ref mst :: .int sto :: .ref mwd :: .ref msd :: .int sx_ :: .ref mws :: .int sun :: .ref mfr :: .ref mqu :: .ref miw :: .int sfi :: .int swa :: .long sdx :: .ref mim :: .ref mix :: .ref mmd :: []))), (msd, .inl ((cs 0), 133, .inl g_227))]) [0, 1] (by decide) rfl
                    exact W.iret (v := x_230) hx hb hr (fun t9 ht9 hW9 => ⟨⟨_, (), rfl, trivial, ⟨g_227, rb_228.1, rb_228.2, by rw [ht9]; exact hP9, hD9⟩⟩, hS.F ht9⟩) hS.2.2 dX12_crease_174
                  · have r_192 : Rg 10 10 x_187 := Rg.eq_l c_190 r_189 (Rg.c (c := 10) (k := 10) rfl) (by decide)
                    refine lv_bipush (v := (-2)) hx hb dX12_crease_108 (by decide) ?_
                    refine W.widen (k := 0) (n := 0) (Nat.le_of_ble_eq_true rfl) (Nat.le_of_ble_eq_true rfl) ?_
                    have hP9 := hP.sub (ws' := [(m0, .inr (10, (.ref mtp :: .int sta :: .int sru :: .ref msg :: .ref mln :: .ref mcl :: .ref mcs :: .ref mrd :: .int snx :: .int swr :: .int snu :: .int ste :: .int sma :: .int sde :: .int sli :: .ref mop :: .int sod :: .ref mst :: .int sto :: .ref mwd :: .ref msd :: .int sx_ :: .ref mws :: .int sun :: .ref mfr :: .ref mqu :: .ref miw :: .int sfi :: .int swa :: .long sdx :: .ref mim :: .ref mix :: .ref mmd :: []))), (msd, .inl ((cs 0), 133, .inl gsd))]) [0, 1] rfl
                    have hD9 := hD.sub (ws' := [(m0, .inr (10, (.ref mtp :: .int sta :: .int sru :: .ref msg :: .ref mln :: .ref mcl :: .ref mcs :: .ref mrd :: .int snx :: .int swr :: .int snu :: .int ste :: .int sma :: .int sde :: .int sli :: .ref mop :: .int sod :: .ref mst :: .int sto :: .ref mwd :: .ref msd :: .int sx_ :: .ref mws :: .int sun :: .ref mfr :: .ref mqu :: .ref miw :: .int sfi :: .int swa :: .long sdx :: .ref mim :: .ref mix :: .ref mmd :: []))), (msd, .inl ((cs 0), 133, .inl gsd))]) [0, 1] (by decide) rfl
                    exact W.iret (v := (-2)) hx hb hr (fun t9 ht9 hW9 => ⟨⟨_, (), rfl, trivial, ⟨gsd, hsi, rfl, by rw [ht9]; exact hP9, hD9⟩⟩, hS.F ht9⟩) hS.2.2 dX12_crease_110
          · have r_160 : Rg 3 3 a := Rg.eq_l c_159 (Rg.top a) (Rg.c (c := 3) (k := 3) rfl) (by decide)
            refine lv_iconst (v := 1) hx hb dX12_crease_42 (by decide) ?_
            refine lv_goto (tgt := 47) hx hb dX12_crease_43 (by decide) ?_
            refine lv_istore (lv' := [(5, .int 1), (4, .int 0), (0, .ref m0), (1, .int a), (2, .int b), (3, .int h)]) hx hb dX12_crease_47 hl (by decide) rfl (fun ls hl => ?_)
            refine lv_iload_n hx hb dX12_crease_49 rfl (lv_at hl 3 rfl) ?_
            refine lv_i2l (v := Int32.toInt64 a) hx hb dX12_crease_50 rfl ?_
            refine lv_topl (fun x_233 e_234 => ?_)
            refine lv_lconst (v := 0) hx hb dX12_crease_51 (by decide) ?_
            refine lv_ldc2 (v := 5) hx hb hown (hT _ qq_7_47) dX12_crease_52 ?_
            have hPc := va_P.sub (ws' := []) hP [] rfl
            refine cl_P (W.runS (As := [.long x_233, .long 0, .long 5]) (rest := []) ⟨hx, hb, hml, hown, hts⟩ (c_M_in l D cs x_233 0 5) ⟨callB_of 3 hts (gd_C qq_6_97) rfl rfl rfl (hT _ qq_1_9) (hT _ qq_6_95) (by decide +kernel) (rm_R rfl rfl), (hT _ qq_6_96)⟩ (pq_S hPc hK hN) rfl rfl hl.1 rfl (lv_room (Nat.le_of_ble_eq_true rfl)) dX12_crease_55 ⟨Nat.le_of_ble_eq_true rfl, Nat.le_of_ble_eq_true rfl⟩) (fun v9 hz_236 => ?_)
            obtain ⟨x_235, rfl, r_237⟩ := hz_236
            refine lv_if_eq (tgt := 108) hx hb dX12_crease_58 (by decide) (fun c_238 => ?_) (fun c_238 => ?_)
            · have r_239 : Rg 0 0 x_235 := Rg.eq_l c_238 r_237.1 (Rg.c (c := 0) (k := 0) rfl) (by decide)
              refine lv_bipush (v := (-2)) hx hb dX12_crease_108 (by decide) ?_
              refine W.widen (k := 0) (n := 0) (Nat.le_of_ble_eq_true rfl) (Nat.le_of_ble_eq_true rfl) ?_
              have hP9 := hP.sub (ws' := [(m0, .inr (10, (.ref mtp :: .int sta :: .int sru :: .ref msg :: .ref mln :: .ref mcl :: .ref mcs :: .ref mrd :: .int snx :: .int swr :: .int snu :: .int ste :: .int sma :: .int sde :: .int sli :: .ref mop :: .int sod :: .ref mst :: .int sto :: .ref mwd :: .ref msd :: .int sx_ :: .ref mws :: .int sun :: .ref mfr :: .ref mqu :: .ref miw :: .int sfi :: .int swa :: .long sdx :: .ref mim :: .ref mix :: .ref mmd :: []))), (msd, .inl ((cs 0), 133, .inl gsd))]) [0, 1] rfl
              have hD9 := hD.sub (ws' := [(m0, .inr (10, (.ref mtp :: .int sta :: .int sru :: .ref msg :: .ref mln :: .ref mcl :: .ref mcs :: .ref mrd :: .int snx :: .int swr :: .int snu :: .int ste :: .int sma :: .int sde :: .int sli :: .ref mop :: .int sod :: .ref mst :: .int sto :: .ref mwd :: .ref msd :: .int sx_ :: .ref mws :: .int sun :: .ref mfr :: .ref mqu :: .ref miw :: .int sfi :: .int swa :: .long sdx :: .ref mim :: .ref mix :: .ref mmd :: []))), (msd, .inl ((cs 0), 133, .inl gsd))]) [0, 1] (by decide) rfl
              exact W.iret (v := (-2)) hx hb hr (fun t9 ht9 hW9 => ⟨⟨_, (), rfl, trivial, ⟨gsd, hsi, rfl, by rw [ht9]; exact hP9, hD9⟩⟩, hS.F ht9⟩) hS.2.2 dX12_crease_110
            · have r_240 : Rg 1 1 x_235 := Rg.ne c_238 r_237.1 (Rg.c (c := 0) (k := 0) rfl) (by decide)
              refine lv_aload_n hx hb dX12_crease_61 rfl (lv_at hl 2 rfl) ?_
              refine lv_iload_n hx hb dX12_crease_62 rfl (lv_at hl 4 rfl) ?_
              have hPc := va_P.sub (ws' := [(m0, .inr (10, (.ref mtp :: .int sta :: .int sru :: .ref msg :: .ref mln :: .ref mcl :: .ref mcs :: .ref mrd :: .int snx :: .int swr :: .int snu :: .int ste :: .int sma :: .int sde :: .int sli :: .ref mop :: .int sod :: .ref mst :: .int sto :: .ref mwd :: .ref msd :: .int sx_ :: .ref mws :: .int sun :: .ref mfr :: .ref mqu :: .ref miw :: .int sfi :: .int swa :: .long sdx :: .ref mim :: .ref mix :: .ref mmd :: []))), (msd, .inl ((cs 0), 133, .inl gsd))]) hP [0, 1] rfl
              refine cl_P (W.runV (As := [.int b]) (rest := []) ⟨hx, hb, hml, hown, hts⟩ (c_M_isButton l D cs m0 mtp sta sru msg mln mcl mcs mrd snx swr snu ste sma sde sli mop sod mst sto mwd msd sx_ mws sun mfr mqu miw sfi swa sdx mim mix mmd gsd b hsi) ⟨callB_of 1 hts (gd_C qq_7_4) rfl rfl rfl (hT _ qq_1_9) (hT _ qq_7_1) (by decide +kernel) (rm_R rfl rfl), (hT _ qq_7_3), (hT _ qs_4_10)⟩ (pq_V hPc hK hN (ci := 10) (q0 := 0) rfl rfl) rfl rfl hl.1 rfl (lv_room (Nat.le_of_ble_eq_true rfl)) dX12_crease_63 ⟨Nat.le_of_ble_eq_true rfl, Nat.le_of_ble_eq_true rfl⟩) (fun v9 hz_242 => ?_)
              obtain ⟨x_241, rfl, r_243⟩ := hz_242
              refine lv_if_eq (tgt := 108) hx hb dX12_crease_66 (by decide) (fun c_244 => ?_) (fun c_244 => ?_)
              · have r_245 : Rg 0 0 x_241 := Rg.eq_l c_244 r_243.1 (Rg.c (c := 0) (k := 0) rfl) (by decide)
                refine lv_bipush (v := (-2)) hx hb dX12_crease_108 (by decide) ?_
                refine W.widen (k := 0) (n := 0) (Nat.le_of_ble_eq_true rfl) (Nat.le_of_ble_eq_true rfl) ?_
                have hP9 := hP.sub (ws' := [(m0, .inr (10, (.ref mtp :: .int sta :: .int sru :: .ref msg :: .ref mln :: .ref mcl :: .ref mcs :: .ref mrd :: .int snx :: .int swr :: .int snu :: .int ste :: .int sma :: .int sde :: .int sli :: .ref mop :: .int sod :: .ref mst :: .int sto :: .ref mwd :: .ref msd :: .int sx_ :: .ref mws :: .int sun :: .ref mfr :: .ref mqu :: .ref miw :: .int sfi :: .int swa :: .long sdx :: .ref mim :: .ref mix :: .ref mmd :: []))), (msd, .inl ((cs 0), 133, .inl gsd))]) [0, 1] rfl
                have hD9 := hD.sub (ws' := [(m0, .inr (10, (.ref mtp :: .int sta :: .int sru :: .ref msg :: .ref mln :: .ref mcl :: .ref mcs :: .ref mrd :: .int snx :: .int swr :: .int snu :: .int ste :: .int sma :: .int sde :: .int sli :: .ref mop :: .int sod :: .ref mst :: .int sto :: .ref mwd :: .ref msd :: .int sx_ :: .ref mws :: .int sun :: .ref mfr :: .ref mqu :: .ref miw :: .int sfi :: .int swa :: .long sdx :: .ref mim :: .ref mix :: .ref mmd :: []))), (msd, .inl ((cs 0), 133, .inl gsd))]) [0, 1] (by decide) rfl
                exact W.iret (v := (-2)) hx hb hr (fun t9 ht9 hW9 => ⟨⟨_, (), rfl, trivial, ⟨gsd, hsi, rfl, by rw [ht9]; exact hP9, hD9⟩⟩, hS.F ht9⟩) hS.2.2 dX12_crease_110
              · have r_246 : Rg 1 1 x_241 := Rg.ne c_244 r_243.1 (Rg.c (c := 0) (k := 0) rfl) (by decide)
                have r_247 : Rg 0 7 b := hb_r (r_243.2.1 c_244) (hsi).a0 (by decide)
                refine lv_aload_n hx hb dX12_crease_69 rfl (lv_at hl 2 rfl) ?_
                refine lv_iload_n hx hb dX12_crease_70 rfl (lv_at hl 5 rfl) ?_
                have hPc := va_P.sub (ws' := [(m0, .inr (10, (.ref mtp :: .int sta :: .int sru :: .ref msg :: .ref mln :: .ref mcl :: .ref mcs :: .ref mrd :: .int snx :: .int swr :: .int snu :: .int ste :: .int sma :: .int sde :: .int sli :: .ref mop :: .int sod :: .ref mst :: .int sto :: .ref mwd :: .ref msd :: .int sx_ :: .ref mws :: .int sun :: .ref mfr :: .ref mqu :: .ref miw :: .int sfi :: .int swa :: .long sdx :: .ref mim :: .ref mix :: .ref mmd :: []))), (msd, .inl ((cs 0), 133, .inl gsd))]) hP [0, 1] rfl
                refine cl_P (W.runV (As := [.int h]) (rest := []) ⟨hx, hb, hml, hown, hts⟩ (c_M_isHole l D cs m0 mtp sta sru msg mln mcl mcs mrd snx swr snu ste sma sde sli mop sod mst sto mwd msd sx_ mws sun mfr mqu miw sfi swa sdx mim mix mmd gsd h hsi) ⟨callB_of 1 hts (gd_C qq_7_37) rfl rfl rfl (hT _ qq_1_9) (hT _ qq_7_34) (by decide +kernel) (rm_R rfl rfl), (hT _ qq_7_36), (hT _ qs_5_1)⟩ (pq_V hPc hK hN (ci := 10) (q0 := 0) rfl rfl) rfl rfl hl.1 rfl (lv_room (Nat.le_of_ble_eq_true rfl)) dX12_crease_71 ⟨Nat.le_of_ble_eq_true rfl, Nat.le_of_ble_eq_true rfl⟩) (fun v9 hz_249 => ?_)
                obtain ⟨x_248, rfl, r_250⟩ := hz_249
                refine lv_if_eq (tgt := 108) hx hb dX12_crease_74 (by decide) (fun c_251 => ?_) (fun c_251 => ?_)
                · have r_252 : Rg 0 0 x_248 := Rg.eq_l c_251 r_250.1 (Rg.c (c := 0) (k := 0) rfl) (by decide)
                  refine lv_bipush (v := (-2)) hx hb dX12_crease_108 (by decide) ?_
                  refine W.widen (k := 0) (n := 0) (Nat.le_of_ble_eq_true rfl) (Nat.le_of_ble_eq_true rfl) ?_
                  have hP9 := hP.sub (ws' := [(m0, .inr (10, (.ref mtp :: .int sta :: .int sru :: .ref msg :: .ref mln :: .ref mcl :: .ref mcs :: .ref mrd :: .int snx :: .int swr :: .int snu :: .int ste :: .int sma :: .int sde :: .int sli :: .ref mop :: .int sod :: .ref mst :: .int sto :: .ref mwd :: .ref msd :: .int sx_ :: .ref mws :: .int sun :: .ref mfr :: .ref mqu :: .ref miw :: .int sfi :: .int swa :: .long sdx :: .ref mim :: .ref mix :: .ref mmd :: []))), (msd, .inl ((cs 0), 133, .inl gsd))]) [0, 1] rfl
                  have hD9 := hD.sub (ws' := [(m0, .inr (10, (.ref mtp :: .int sta :: .int sru :: .ref msg :: .ref mln :: .ref mcl :: .ref mcs :: .ref mrd :: .int snx :: .int swr :: .int snu :: .int ste :: .int sma :: .int sde :: .int sli :: .ref mop :: .int sod :: .ref mst :: .int sto :: .ref mwd :: .ref msd :: .int sx_ :: .ref mws :: .int sun :: .ref mfr :: .ref mqu :: .ref miw :: .int sfi :: .int swa :: .long sdx :: .ref mim :: .ref mix :: .ref mmd :: []))), (msd, .inl ((cs 0), 133, .inl gsd))]) [0, 1] (by decide) rfl
                  exact W.iret (v := (-2)) hx hb hr (fun t9 ht9 hW9 => ⟨⟨_, (), rfl, trivial, ⟨gsd, hsi, rfl, by rw [ht9]; exact hP9, hD9⟩⟩, hS.F ht9⟩) hS.2.2 dX12_crease_110
                · have r_253 : Rg 1 1 x_248 := Rg.ne c_251 r_250.1 (Rg.c (c := 0) (k := 0) rfl) (by decide)
                  have r_254 : Rg 0 7 h := hb_r (r_250.2.1 c_251) (hsi).a1 (by decide)
                  refine lv_iload hx hb dX12_crease_77 (lv_at hl 1 rfl) ?_
                  refine lv_if_eq (tgt := 86) hx hb dX12_crease_79 (by decide) (fun c_255 => ?_) (fun c_255 => False.elim (Rg.no_ne c_255 (Rg.c (c := 0) (k := 0) rfl) (Rg.c (c := 0) (k := 0) rfl) (by decide)))
                  refine lv_iload hx hb dX12_crease_86 (lv_at hl 0 rfl) ?_
                  refine lv_if_eq (tgt := 95) hx hb dX12_crease_88 (by decide) (fun c_256 => False.elim (Rg.no_eq c_256 (Rg.c (c := 1) (k := 1) rfl) (Rg.c (c := 0) (k := 0) rfl) (by decide))) (fun c_256 => ?_)
                  refine lv_iload_n hx hb dX12_crease_91 rfl (lv_at hl 4 rfl) ?_
                  refine lv_if_ne (tgt := 108) hx hb dX12_crease_92 (by decide) (fun c_257 => ?_) (fun c_257 => ?_)
                  · have r_258 : Rg 1 7 b := Rg.ne c_257 r_247 (Rg.c (c := 0) (k := 0) rfl) (by decide)
                    refine lv_bipush (v := (-2)) hx hb dX12_crease_108 (by decide) ?_
                    refine W.widen (k := 0) (n := 0) (Nat.le_of_ble_eq_true rfl) (Nat.le_of_ble_eq_true rfl) ?_
                    have hP9 := hP.sub (ws' := [(m0, .inr (10, (.ref mtp :: .int sta :: .int sru :: .ref msg :: .ref mln :: .ref mcl :: .ref mcs :: .ref mrd :: .int snx :: .int swr :: .int snu :: .int ste :: .int sma :: .int sde :: .int sli :: .ref mop :: .int sod :: .ref mst :: .int sto :: .ref mwd :: .ref msd :: .int sx_ :: .ref mws :: .int sun :: .ref mfr :: .ref mqu :: .ref miw :: .int sfi :: .int swa :: .long sdx :: .ref mim :: .ref mix :: .ref mmd :: []))), (msd, .inl ((cs 0), 133, .inl gsd))]) [0, 1] rfl
                    have hD9 := hD.sub (ws' := [(m0, .inr (10, (.ref mtp :: .int sta :: .int sru :: .ref msg :: .ref mln :: .ref mcl :: .ref mcs :: .ref mrd :: .int snx :: .int swr :: .int snu :: .int ste :: .int sma :: .int sde :: .int sli :: .ref mop :: .int sod :: .ref mst :: .int sto :: .ref mwd :: .ref msd :: .int sx_ :: .ref mws :: .int sun :: .ref mfr :: .ref mqu :: .ref miw :: .int sfi :: .int swa :: .long sdx :: .ref mim :: .ref mix :: .ref mmd :: []))), (msd, .inl ((cs 0), 133, .inl gsd))]) [0, 1] (by decide) rfl
                    exact W.iret (v := (-2)) hx hb hr (fun t9 ht9 hW9 => ⟨⟨_, (), rfl, trivial, ⟨gsd, hsi, rfl, by rw [ht9]; exact hP9, hD9⟩⟩, hS.F ht9⟩) hS.2.2 dX12_crease_110
                  · have r_259 : Rg 0 0 b := Rg.eq_l c_257 r_247 (Rg.c (c := 0) (k := 0) rfl) (by decide)
                    refine lv_aload_n hx hb dX12_crease_95 rfl (lv_at hl 2 rfl) ?_
                    refine va_get (D := D) (ci := 10) (v := .ref msd) (C := "WrongHoleModel") (T := TX12) (N := 33) hx hb hts (iq_RX12 _) hown hK hP 0 rfl rfl 20 (by decide) (hT _ qq_5_172) (fun _ h9 => h9) rfl dX12_crease_96 ?_
                    refine lv_sipush (v := 132) hx hb dX12_crease_99 (by decide) ?_
                    have hi_260 : vp_in 132 133 := vi_c rfl
                    refine va_iald hx hb hK hP 1 0 rfl rfl hi_260 dX12_crease_102 ?_
                    refine lv_topi (fun x_261 e_262 => ?_)
                    have r_263 : Rg 0 10 x_261 := Rg.of e_262 (hsi.a132)
                    refine lv_bipush (v := 10) hx hb dX12_crease_103 (by decide) ?_
                    refine lv_icmp_ne (tgt := 111) hx hb dX12_crease_105 (by decide) (fun c_264 => ?_) (fun c_264 => ?_)
                    · have r_265 : Rg 0 9 x_261 := Rg.ne c_264 r_263 (Rg.c (c := 10) (k := 10) rfl) (by decide)
                      refine lv_bipush (v := 102) hx hb dX12_crease_111 (by decide) ?_
                      refine lv_iconst (v := 3) hx hb dX12_crease_113 (by decide) ?_
                      refine lv_aload_n hx hb dX12_crease_114 rfl (lv_at hl 2 rfl) ?_
                      refine va_get (D := D) (ci := 10) (v := .ref msd) (C := "WrongHoleModel") (T := TX12) (N := 33) hx hb hts (iq_RX12 _) hown hK hP 0 rfl rfl 20 (by decide) (hT _ qq_5_172) (fun _ h9 => h9) rfl dX12_crease_115 ?_
                      refine lv_sipush (v := 132) hx hb dX12_crease_118 (by decide) ?_
                      have hi_267 : vp_in 132 133 := vi_c rfl
                      refine va_iald hx hb hK hP 1 0 rfl rfl hi_267 dX12_crease_121 ?_
                      refine lv_topi (fun x_268 e_269 => ?_)
                      have r_270 : Rg 0 10 x_268 := Rg.of e_269 (hsi).a132
                      have r_271 : Rg 0 9 x_268 := Rg.of (e_269.trans e_262.symm) r_265
                      refine lv_imul hx hb dX12_crease_122 ?_
                      refine lv_topi (fun x_272 e_273 => ?_)
                      have r_274 : Rg 0 27 x_272 := Rg.mul (ha := 3) (hb := 9) e_273 (Rg.wk (lo2 := 0) (hi2 := 3) (Rg.c (c := 3) (k := 3) rfl) (by decide)) r_271 (by decide)
                      refine lv_iadd hx hb dX12_crease_123 ?_
                      refine lv_topi (fun x_275 e_276 => ?_)
                      have r_277 : Rg 102 129 x_275 := Rg.add e_276 (Rg.c (c := 102) (k := 102) rfl) r_274 (by decide)
                      refine lv_istore (lv' := [(6, .int x_275), (5, .int 1), (4, .int 0), (0, .ref m0), (1, .int a), (2, .int b), (3, .int h)]) hx hb dX12_crease_124 hl (by decide) rfl (fun ls hl => ?_)
                      refine lv_aload_n hx hb dX12_crease_126 rfl (lv_at hl 3 rfl) ?_
                      refine va_get (D := D) (ci := 10) (v := .ref msd) (C := "WrongHoleModel") (T := TX12) (N := 33) hx hb hts (iq_RX12 _) hown hK hP 0 rfl rfl 20 (by decide) (hT _ qq_5_172) (fun _ h9 => h9) rfl dX12_crease_127 ?_
                      refine lv_iload hx hb dX12_crease_130 (lv_at hl 0 rfl) ?_
                      refine lv_iload_n hx hb dX12_crease_132 rfl (lv_at hl 4 rfl) ?_
                      have hi_278 : vp_in x_275 133 := Rg.in r_277 (by decide)
                      refine va_iast hx hb hK hP hD hS 1 0 rfl rfl hi_278 dX12_crease_133 (fun H locs hP hD hS => ?_)
                      obtain ⟨g_279, rb_280, hP, hD⟩ : ∃ g_279 : Nat → Int32, (SI g_279 ∧ g_279 0 = gsd 0 ∧ g_279 132 = gsd 132) ∧ va_P D vwCl [(m0, .inr (10, (.ref mtp :: .int sta :: .int sru :: .ref msg :: .ref mln :: .ref mcl :: .ref mcs :: .ref mrd :: .int snx :: .int swr :: .int snu :: .int ste :: .int sma :: .int sde :: .int sli :: .ref mop :: .int sod :: .ref mst :: .int sto :: .ref mwd :: .ref msd :: .int sx_ :: .ref mws :: .int sun :: .ref mfr :: .ref mqu :: .ref miw :: .int sfi :: .int swa :: .long sdx :: .ref mim :: .ref mix :: .ref mmd :: []))), (msd, .inl ((cs 0), 133, .inl g_279))] H ∧ va_D A [(m0, .inr (10, (.ref mtp :: .int sta :: .int sru :: .ref msg :: .ref mln :: .ref mcl :: .ref mcs :: .ref mrd :: .int snx :: .int swr :: .int snu :: .int ste :: .int sma :: .int sde :: .int sli :: .ref mop :: .int sod :: .ref mst :: .int sto :: .ref mwd :: .ref msd :: .int sx_ :: .ref mws :: .int sun :: .ref mfr :: .ref mqu :: .ref miw :: .int sfi :: .int swa :: .long sdx :: .ref mim :: .ref mix :: .ref mmd :: []))), (msd, .inl ((cs 0), 133, .inl g_279))] := ⟨_, ⟨si_cr hsi (show 102 ≤ cN x_275 ∧ cN x_275 < 133 from by have h9 := cN_i r_277 (by decide); have h8 := (r_277).1; have h7 := (r_277).2; exact ⟨by omega, by omega⟩) (Rg.wk (lo2 := 0) (hi2 := 7) r_160 (by decide)), (up_n (by have h9 := cN_i r_277 (by decide); have h8 := (r_277).1; show 0 ≠ cN x_275; omega)).trans rfl, (up_n (by have h9 := cN_i r_277 (by decide); have h8 := (r_277).2; show 132 ≠ cN x_275; omega)).trans rfl⟩, hP, hD⟩
                      refine lv_aload_n hx hb dX12_crease_134 rfl (lv_at hl 3 rfl) ?_
                      refine va_get (D := D) (ci := 10) (v := .ref msd) (C := "WrongHoleModel") (T := TX12) (N := 33) hx hb hts (iq_RX12 _) hown hK hP 0 rfl rfl 20 (by decide) (hT _ qq_5_172) (fun _ h9 => h9) rfl dX12_crease_135 ?_
                      refine lv_iload hx hb dX12_crease_138 (lv_at hl 0 rfl) ?_
                      refine lv_iconst (v := 1) hx hb dX12_crease_140 (by decide) ?_
                      refine lv_iadd hx hb dX12_crease_141 ?_
                      refine lv_topi (fun x_281 e_282 => ?_)
                      have r_283 : Rg 103 130 x_281 := Rg.add e_282 r_277 (Rg.c (c := 1) (k := 1) rfl) (by decide)
                      refine lv_iload_n hx hb dX12_crease_142 rfl (lv_at hl 5 rfl) ?_
                      have hi_284 : vp_in x_281 133 := Rg.in r_283 (by decide)
                      refine va_iast hx hb hK hP hD hS 1 0 rfl rfl hi_284 dX12_crease_143 (fun H locs hP hD hS => ?_)
                      obtain ⟨g_285, rb_286, hP, hD⟩ : ∃ g_285 : Nat → Int32, (SI g_285 ∧ g_285 0 = gsd 0 ∧ g_285 132 = gsd 132) ∧ va_P D vwCl [(m0, .inr (10, (.ref mtp :: .int sta :: .int sru :: .ref msg :: .ref mln :: .ref mcl :: .ref mcs :: .ref mrd :: .int snx :: .int swr :: .int snu :: .int ste :: .int sma :: .int sde :: .int sli :: .ref mop :: .int sod :: .ref mst :: .int sto :: .ref mwd :: .ref msd :: .int sx_ :: .ref mws :: .int sun :: .ref mfr :: .ref mqu :: .ref miw :: .int sfi :: .int swa :: .long sdx :: .ref mim :: .ref mix :: .ref mmd :: []))), (msd, .inl ((cs 0), 133, .inl g_285))] H ∧ va_D A [(m0, .inr (10, (.ref mtp :: .int sta :: .int sru :: .ref msg :: .ref mln :: .ref mcl :: .ref mcs :: .ref mrd :: .int snx :: .int swr :: .int snu :: .int ste :: .int sma :: .int sde :: .int sli :: .ref mop :: .int sod :: .ref mst :: .int sto :: .ref mwd :: .ref msd :: .int sx_ :: .ref mws :: .int sun :: .ref mfr :: .ref mqu :: .ref miw :: .int sfi :: .int swa :: .long sdx :: .ref mim :: .ref mix :: .ref mmd :: []))), (msd, .inl ((cs 0), 133, .inl g_285))] := ⟨_, ⟨si_cr rb_280.1 (show 102 ≤ cN x_281 ∧ cN x_281 < 133 from by have h9 := cN_i r_283 (by decide); have h8 := (r_283).1; have h7 := (r_283).2; exact ⟨by omega, by omega⟩) (Rg.wk (lo2 := 0) (hi2 := 7) r_259 (by decide)), (up_n (by have h9 := cN_i r_283 (by decide); have h8 := (r_283).1; show 0 ≠ cN x_281; omega)).trans rb_280.2.1, (up_n (by have h9 := cN_i r_283 (by decide); have h8 := (r_283).2; show 132 ≠ cN x_281; omega)).trans rb_280.2.2⟩, hP, hD⟩
                      refine lv_aload_n hx hb dX12_crease_144 rfl (lv_at hl 3 rfl) ?_
                      refine va_get (D := D) (ci := 10) (v := .ref msd) (C := "WrongHoleModel") (T := TX12) (N := 33) hx hb hts (iq_RX12 _) hown hK hP 0 rfl rfl 20 (by decide) (hT _ qq_5_172) (fun _ h9 => h9) rfl dX12_crease_145 ?_
                      refine lv_iload hx hb dX12_crease_148 (lv_at hl 0 rfl) ?_
                      refine lv_iconst (v := 2) hx hb dX12_crease_150 (by decide) ?_
                      refine lv_iadd hx hb dX12_crease_151 ?_
                      refine lv_topi (fun x_287 e_288 => ?_)
                      have r_289 : Rg 104 131 x_287 := Rg.add e_288 r_277 (Rg.c (c := 2) (k := 2) rfl) (by decide)
                      refine lv_iload_n hx hb dX12_crease_152 rfl (lv_at hl 6 rfl) ?_
                      have hi_290 : vp_in x_287 133 := Rg.in r_289 (by decide)
                      refine va_iast hx hb hK hP hD hS 1 0 rfl rfl hi_290 dX12_crease_153 (fun H locs hP hD hS => ?_)
                      obtain ⟨g_291, rb_292, hP, hD⟩ : ∃ g_291 : Nat → Int32, (SI g_291 ∧ g_291 0 = gsd 0 ∧ g_291 132 = gsd 132) ∧ va_P D vwCl [(m0, .inr (10, (.ref mtp :: .int sta :: .int sru :: .ref msg :: .ref mln :: .ref mcl :: .ref mcs :: .ref mrd :: .int snx :: .int swr :: .int snu :: .int ste :: .int sma :: .int sde :: .int sli :: .ref mop :: .int sod :: .ref mst :: .int sto :: .ref mwd :: .ref msd :: .int sx_ :: .ref mws :: .int sun :: .ref mfr :: .ref mqu :: .ref miw :: .int sfi :: .int swa :: .long sdx :: .ref mim :: .ref mix :: .ref mmd :: []))), (msd, .inl ((cs 0), 133, .inl g_291))] H ∧ va_D A [(m0, .inr (10, (.ref mtp :: .int sta :: .int sru :: .ref msg :: .ref mln :: .ref mcl :: .ref mcs :: .ref mrd :: .int snx :: .int swr :: .int snu :: .int ste :: .int sma :: .int sde :: .int sli :: .ref mop :: .int sod :: .ref mst :: .int sto :: .ref mwd :: .ref msd :: .int sx_ :: .ref mws :: .int sun :: .ref mfr :: .ref mqu :: .ref miw :: .int sfi :: .int swa :: .long sdx :: .ref mim :: .ref mix :: .ref mmd :: []))), (msd, .inl ((cs 0), 133, .inl g_291))] := ⟨_, ⟨si_cr rb_286.1 (show 102 ≤ cN x_287 ∧ cN x_287 < 133 from by have h9 := cN_i r_289 (by decide); have h8 := (r_289).1; have h7 := (r_289).2; exact ⟨by omega, by omega⟩) r_254, (up_n (by have h9 := cN_i r_289 (by decide); have h8 := (r_289).1; show 0 ≠ cN x_287; omega)).trans rb_286.2.1, (up_n (by have h9 := cN_i r_289 (by decide); have h8 := (r_289).2; show 132 ≠ cN x_287; omega)).trans rb_286.2.2⟩, hP, hD⟩
                      refine lv_aload_n hx hb dX12_crease_154 rfl (lv_at hl 3 rfl) ?_
                      refine va_get (D := D) (ci := 10) (v := .ref msd) (C := "WrongHoleModel") (T := TX12) (N := 33) hx hb hts (iq_RX12 _) hown hK hP 0 rfl rfl 20 (by decide) (hT _ qq_5_172) (fun _ h9 => h9) rfl dX12_crease_155 ?_
                      refine lv_sipush (v := 132) hx hb dX12_crease_158 (by decide) ?_
                      refine lv_dup2_11 hx hb dX12_crease_161 rfl rfl ?_
                      have hi_293 : vp_in 132 133 := vi_c rfl
                      refine va_iald hx hb hK hP 1 0 rfl rfl hi_293 dX12_crease_162 ?_
                      refine lv_topi (fun x_294 e_295 => ?_)
                      have r_296 : Rg 0 9 x_294 := Rg.of (e_295.trans (rb_292.2.2.trans e_262.symm)) r_265
                      refine lv_iconst (v := 1) hx hb dX12_crease_163 (by decide) ?_
                      refine lv_iadd hx hb dX12_crease_164 ?_
                      refine lv_topi (fun x_297 e_298 => ?_)
                      have r_299 : Rg 1 10 x_297 := Rg.add e_298 r_296 (Rg.c (c := 1) (k := 1) rfl) (by decide)
                      have hi_300 : vp_in 132 133 := vi_c rfl
                      refine va_iast hx hb hK hP hD hS 1 0 rfl rfl hi_300 dX12_crease_165 (fun H locs hP hD hS => ?_)
                      obtain ⟨g_301, rb_302, hP, hD⟩ : ∃ g_301 : Nat → Int32, (SI g_301 ∧ g_301 0 = gsd 0) ∧ va_P D vwCl [(m0, .inr (10, (.ref mtp :: .int sta :: .int sru :: .ref msg :: .ref mln :: .ref mcl :: .ref mcs :: .ref mrd :: .int snx :: .int swr :: .int snu :: .int ste :: .int sma :: .int sde :: .int sli :: .ref mop :: .int sod :: .ref mst :: .int sto :: .ref mwd :: .ref msd :: .int sx_ :: .ref mws :: .int sun :: .ref mfr :: .ref mqu :: .ref miw :: .int sfi :: .int swa :: .long sdx :: .ref mim :: .ref mix :: .ref mmd :: []))), (msd, .inl ((cs 0), 133, .inl g_301))] H ∧ va_D A [(m0, .inr (10, (.ref mtp :: .int sta :: .int sru :: .ref msg :: .ref mln :: .ref mcl :: .ref mcs :: .ref mrd :: .int snx :: .int swr :: .int snu :: .int ste :: .int sma :: .int sde :: .int sli :: .ref mop :: .int sod :: .ref mst :: .int sto :: .ref mwd :: .ref msd :: .int sx_ :: .ref mws :: .int sun :: .ref mfr :: .ref mqu :: .ref miw :: .int sfi :: .int swa :: .long sdx :: .ref mim :: .ref mix :: .ref mmd :: []))), (msd, .inl ((cs 0), 133, .inl g_301))] := ⟨_, ⟨si_132 rb_292.1 (Rg.wk (lo2 := 0) (hi2 := 10) r_299 (by decide)), (up_n (by decide)).trans rb_292.2.1⟩, hP, hD⟩
                      refine lv_aload_n hx hb dX12_crease_166 rfl (lv_at hl 3 rfl) ?_
                      refine va_get (D := D) (ci := 10) (v := .ref msd) (C := "WrongHoleModel") (T := TX12) (N := 33) hx hb hts (iq_RX12 _) hown hK hP 0 rfl rfl 20 (by decide) (hT _ qq_5_172) (fun _ h9 => h9) rfl dX12_crease_167 ?_
                      refine lv_sipush (v := 132) hx hb dX12_crease_170 (by decide) ?_
                      have hi_303 : vp_in 132 133 := vi_c rfl
                      refine va_iald hx hb hK hP 1 0 rfl rfl hi_303 dX12_crease_173 ?_
                      refine lv_topi (fun x_304 e_305 => ?_)
                      have r_306 : Rg 0 10 x_304 := Rg.of e_305 (rb_302.1.a132)
                      refine W.widen (k := 0) (n := 0) (Nat.le_of_ble_eq_true rfl) (Nat.le_of_ble_eq_true rfl) ?_
                      have hP9 := hP.sub (ws' := [(m0, .inr (10, (.ref mtp :: .int sta :: .int sru :: .ref msg :: .ref mln :: .ref mcl :: .ref mcs :: .ref mrd :: .int snx :: .int swr :: .int snu :: .int ste :: .int sma :: .int sde :: .int sli :: .ref mop :: .int sod :: .ref mst :: .int sto :: .ref mwd :: .ref msd :: .int sx_ :: .ref mws :: .int sun :: .ref mfr :: .ref mqu :: .ref miw :: .int sfi :: .int swa :: .long sdx :: .ref mim :: .ref mix :: .ref mmd :: []))), (msd, .inl ((cs 0), 133, .inl g_301))]) [0, 1] rfl
                      have hD9 := hD.sub (ws' := [(m0, .inr (10, (.ref mtp :: .int sta :: .int sru :: .ref msg :: .ref mln :: .ref mcl :: .ref mcs :: .ref mrd :: .int snx :: .int swr :: .int snu :: .int ste :: .int sma :: .int sde :: .int sli :: .ref mop :: .int sod :: .ref mst :: .int sto :: .ref mwd :: .ref msd :: .int sx_ :: .ref mws :: .int sun :: .ref mfr :: .ref mqu :: .ref miw :: .int sfi :: .int swa :: .long sdx :: .ref mim :: .ref mix :: .ref mmd :: []))), (msd, .inl ((cs 0), 133, .inl g_301))]) [0, 1] (by decide) rfl
                      exact W.iret (v := x_304) hx hb hr (fun t9 ht9 hW9 => ⟨⟨_, (), rfl, trivial, ⟨g_301, rb_302.1, rb_302.2, by rw [ht9]; exact hP9, hD9⟩⟩, hS.F ht9⟩) hS.2.2 dX12_crease_174
                    · have r_266 : Rg 10 10 x_261 := Rg.eq_l c_264 r_263 (Rg.c (c := 10) (k := 10) rfl) (by decide)
                      refine lv_bipush (v := (-2)) hx hb dX12_crease_108 (by decide) ?_
                      refine W.widen (k := 0) (n := 0) (Nat.le_of_ble_eq_true rfl) (Nat.le_of_ble_eq_true rfl) ?_
                      have hP9 := hP.sub (ws' := [(m0, .inr (10, (.ref mtp :: .int sta :: .int sru :: .ref msg :: .ref mln :: .ref mcl :: .ref mcs :: .ref mrd :: .int snx :: .int swr :: .int snu :: .int ste :: .int sma :: .int sde :: .int sli :: .ref mop :: .int sod :: .ref mst :: .int sto :: .ref mwd :: .ref msd :: .int sx_ :: .ref mws :: .int sun :: .ref mfr :: .ref mqu :: .ref miw :: .int sfi :: .int swa :: .long sdx :: .ref mim :: .ref mix :: .ref mmd :: []))), (msd, .inl ((cs 0), 133, .inl gsd))]) [0, 1] rfl
                      have hD9 := hD.sub (ws' := [(m0, .inr (10, (.ref mtp :: .int sta :: .int sru :: .ref msg :: .ref mln :: .ref mcl :: .ref mcs :: .ref mrd :: .int snx :: .int swr :: .int snu :: .int ste :: .int sma :: .int sde :: .int sli :: .ref mop :: .int sod :: .ref mst :: .int sto :: .ref mwd :: .ref msd :: .int sx_ :: .ref mws :: .int sun :: .ref mfr :: .ref mqu :: .ref miw :: .int sfi :: .int swa :: .long sdx :: .ref mim :: .ref mix :: .ref mmd :: []))), (msd, .inl ((cs 0), 133, .inl gsd))]) [0, 1] (by decide) rfl
                      exact W.iret (v := (-2)) hx hb hr (fun t9 ht9 hW9 => ⟨⟨_, (), rfl, trivial, ⟨gsd, hsi, rfl, by rw [ht9]; exact hP9, hD9⟩⟩, hS.F ht9⟩) hS.2.2 dX12_crease_110
      · have r_82 : Rg 1 1 a := Rg.eq_l c_81 (Rg.top a) (Rg.c (c := 1) (k := 1) rfl) (by decide)
        refine lv_iconst (v := 1) hx hb dX12_crease_25 (by decide) ?_
        refine lv_goto (tgt := 30) hx hb dX12_crease_26 (by decide) ?_
        refine lv_istore (lv' := [(4, .int 1), (0, .ref m0), (1, .int a), (2, .int b), (3, .int h)]) hx hb dX12_crease_30 hl (by decide) rfl (fun ls hl => ?_)
        refine lv_iload_n hx hb dX12_crease_32 rfl (lv_at hl 2 rfl) ?_
        refine lv_iconst (v := 2) hx hb dX12_crease_33 (by decide) ?_
        refine lv_icmp_eq (tgt := 42) hx hb dX12_crease_34 (by decide) (fun c_307 => False.elim (Rg.no_eq c_307 r_82 (Rg.c (c := 2) (k := 2) rfl) (by decide))) (fun c_307 => ?_)
        refine lv_iload_n hx hb dX12_crease_37 rfl (lv_at hl 2 rfl) ?_
        refine lv_iconst (v := 3) hx hb dX12_crease_38 (by decide) ?_
        refine lv_icmp_ne (tgt := 46) hx hb dX12_crease_39 (by decide) (fun c_308 => ?_) (fun c_308 => False.elim (Rg.no_eq c_308 r_82 (Rg.c (c := 3) (k := 3) rfl) (by decide)))
        refine lv_iconst (v := 0) hx hb dX12_crease_46 (by decide) ?_
        refine lv_istore (lv' := [(5, .int 0), (4, .int 1), (0, .ref m0), (1, .int a), (2, .int b), (3, .int h)]) hx hb dX12_crease_47 hl (by decide) rfl (fun ls hl => ?_)
        refine lv_iload_n hx hb dX12_crease_49 rfl (lv_at hl 3 rfl) ?_
        refine lv_i2l (v := Int32.toInt64 a) hx hb dX12_crease_50 rfl ?_
        refine lv_topl (fun x_309 e_310 => ?_)
        refine lv_lconst (v := 0) hx hb dX12_crease_51 (by decide) ?_
        refine lv_ldc2 (v := 5) hx hb hown (hT _ qq_7_47) dX12_crease_52 ?_
        have hPc := va_P.sub (ws' := []) hP [] rfl
        refine cl_P (W.runS (As := [.long x_309, .long 0, .long 5]) (rest := []) ⟨hx, hb, hml, hown, hts⟩ (c_M_in l D cs x_309 0 5) ⟨callB_of 3 hts (gd_C qq_6_97) rfl rfl rfl (hT _ qq_1_9) (hT _ qq_6_95) (by decide +kernel) (rm_R rfl rfl), (hT _ qq_6_96)⟩ (pq_S hPc hK hN) rfl rfl hl.1 rfl (lv_room (Nat.le_of_ble_eq_true rfl)) dX12_crease_55 ⟨Nat.le_of_ble_eq_true rfl, Nat.le_of_ble_eq_true rfl⟩) (fun v9 hz_312 => ?_)
        obtain ⟨x_311, rfl, r_313⟩ := hz_312
        refine lv_if_eq (tgt := 108) hx hb dX12_crease_58 (by decide) (fun c_314 => ?_) (fun c_314 => ?_)
        · have r_315 : Rg 0 0 x_311 := Rg.eq_l c_314 r_313.1 (Rg.c (c := 0) (k := 0) rfl) (by decide)
          refine lv_bipush (v := (-2)) hx hb dX12_crease_108 (by decide) ?_
          refine W.widen (k := 0) (n := 0) (Nat.le_of_ble_eq_true rfl) (Nat.le_of_ble_eq_true rfl) ?_
          have hP9 := hP.sub (ws' := [(m0, .inr (10, (.ref mtp :: .int sta :: .int sru :: .ref msg :: .ref mln :: .ref mcl :: .ref mcs :: .ref mrd :: .int snx :: .int swr :: .int snu :: .int ste :: .int sma :: .int sde :: .int sli :: .ref mop :: .int sod :: .ref mst :: .int sto :: .ref mwd :: .ref msd :: .int sx_ :: .ref mws :: .int sun :: .ref mfr :: .ref mqu :: .ref miw :: .int sfi :: .int swa :: .long sdx :: .ref mim :: .ref mix :: .ref mmd :: []))), (msd, .inl ((cs 0), 133, .inl gsd))]) [0, 1] rfl
          have hD9 := hD.sub (ws' := [(m0, .inr (10, (.ref mtp :: .int sta :: .int sru :: .ref msg :: .ref mln :: .ref mcl :: .ref mcs :: .ref mrd :: .int snx :: .int swr :: .int snu :: .int ste :: .int sma :: .int sde :: .int sli :: .ref mop :: .int sod :: .ref mst :: .int sto :: .ref mwd :: .ref msd :: .int sx_ :: .ref mws :: .int sun :: .ref mfr :: .ref mqu :: .ref miw :: .int sfi :: .int swa :: .long sdx :: .ref mim :: .ref mix :: .ref mmd :: []))), (msd, .inl ((cs 0), 133, .inl gsd))]) [0, 1] (by decide) rfl
          exact W.iret (v := (-2)) hx hb hr (fun t9 ht9 hW9 => ⟨⟨_, (), rfl, trivial, ⟨gsd, hsi, rfl, by rw [ht9]; exact hP9, hD9⟩⟩, hS.F ht9⟩) hS.2.2 dX12_crease_110
        · have r_316 : Rg 1 1 x_311 := Rg.ne c_314 r_313.1 (Rg.c (c := 0) (k := 0) rfl) (by decide)
          refine lv_aload_n hx hb dX12_crease_61 rfl (lv_at hl 2 rfl) ?_
          refine lv_iload_n hx hb dX12_crease_62 rfl (lv_at hl 4 rfl) ?_
          have hPc := va_P.sub (ws' := [(m0, .inr (10, (.ref mtp :: .int sta :: .int sru :: .ref msg :: .ref mln :: .ref mcl :: .ref mcs :: .ref mrd :: .int snx :: .int swr :: .int snu :: .int ste :: .int sma :: .int sde :: .int sli :: .ref mop :: .int sod :: .ref mst :: .int sto :: .ref mwd :: .ref msd :: .int sx_ :: .ref mws :: .int sun :: .ref mfr :: .ref mqu :: .ref miw :: .int sfi :: .int swa :: .long sdx :: .ref mim :: .ref mix :: .ref mmd :: []))), (msd, .inl ((cs 0), 133, .inl gsd))]) hP [0, 1] rfl
          refine cl_P (W.runV (As := [.int b]) (rest := []) ⟨hx, hb, hml, hown, hts⟩ (c_M_isButton l D cs m0 mtp sta sru msg mln mcl mcs mrd snx swr snu ste sma sde sli mop sod mst sto mwd msd sx_ mws sun mfr mqu miw sfi swa sdx mim mix mmd gsd b hsi) ⟨callB_of 1 hts (gd_C qq_7_4) rfl rfl rfl (hT _ qq_1_9) (hT _ qq_7_1) (by decide +kernel) (rm_R rfl rfl), (hT _ qq_7_3), (hT _ qs_4_10)⟩ (pq_V hPc hK hN (ci := 10) (q0 := 0) rfl rfl) rfl rfl hl.1 rfl (lv_room (Nat.le_of_ble_eq_true rfl)) dX12_crease_63 ⟨Nat.le_of_ble_eq_true rfl, Nat.le_of_ble_eq_true rfl⟩) (fun v9 hz_318 => ?_)
          obtain ⟨x_317, rfl, r_319⟩ := hz_318
          refine lv_if_eq (tgt := 108) hx hb dX12_crease_66 (by decide) (fun c_320 => ?_) (fun c_320 => ?_)
          · have r_321 : Rg 0 0 x_317 := Rg.eq_l c_320 r_319.1 (Rg.c (c := 0) (k := 0) rfl) (by decide)
            refine lv_bipush (v := (-2)) hx hb dX12_crease_108 (by decide) ?_
            refine W.widen (k := 0) (n := 0) (Nat.le_of_ble_eq_true rfl) (Nat.le_of_ble_eq_true rfl) ?_
            have hP9 := hP.sub (ws' := [(m0, .inr (10, (.ref mtp :: .int sta :: .int sru :: .ref msg :: .ref mln :: .ref mcl :: .ref mcs :: .ref mrd :: .int snx :: .int swr :: .int snu :: .int ste :: .int sma :: .int sde :: .int sli :: .ref mop :: .int sod :: .ref mst :: .int sto :: .ref mwd :: .ref msd :: .int sx_ :: .ref mws :: .int sun :: .ref mfr :: .ref mqu :: .ref miw :: .int sfi :: .int swa :: .long sdx :: .ref mim :: .ref mix :: .ref mmd :: []))), (msd, .inl ((cs 0), 133, .inl gsd))]) [0, 1] rfl
            have hD9 := hD.sub (ws' := [(m0, .inr (10, (.ref mtp :: .int sta :: .int sru :: .ref msg :: .ref mln :: .ref mcl :: .ref mcs :: .ref mrd :: .int snx :: .int swr :: .int snu :: .int ste :: .int sma :: .int sde :: .int sli :: .ref mop :: .int sod :: .ref mst :: .int sto :: .ref mwd :: .ref msd :: .int sx_ :: .ref mws :: .int sun :: .ref mfr :: .ref mqu :: .ref miw :: .int sfi :: .int swa :: .long sdx :: .ref mim :: .ref mix :: .ref mmd :: []))), (msd, .inl ((cs 0), 133, .inl gsd))]) [0, 1] (by decide) rfl
            exact W.iret (v := (-2)) hx hb hr (fun t9 ht9 hW9 => ⟨⟨_, (), rfl, trivial, ⟨gsd, hsi, rfl, by rw [ht9]; exact hP9, hD9⟩⟩, hS.F ht9⟩) hS.2.2 dX12_crease_110
          · have r_322 : Rg 1 1 x_317 := Rg.ne c_320 r_319.1 (Rg.c (c := 0) (k := 0) rfl) (by decide)
            have r_323 : Rg 0 7 b := hb_r (r_319.2.1 c_320) (hsi).a0 (by decide)
            refine lv_aload_n hx hb dX12_crease_69 rfl (lv_at hl 2 rfl) ?_
            refine lv_iload_n hx hb dX12_crease_70 rfl (lv_at hl 5 rfl) ?_
            have hPc := va_P.sub (ws' := [(m0, .inr (10, (.ref mtp :: .int sta :: .int sru :: .ref msg :: .ref mln :: .ref mcl :: .ref mcs :: .ref mrd :: .int snx :: .int swr :: .int snu :: .int ste :: .int sma :: .int sde :: .int sli :: .ref mop :: .int sod :: .ref mst :: .int sto :: .ref mwd :: .ref msd :: .int sx_ :: .ref mws :: .int sun :: .ref mfr :: .ref mqu :: .ref miw :: .int sfi :: .int swa :: .long sdx :: .ref mim :: .ref mix :: .ref mmd :: []))), (msd, .inl ((cs 0), 133, .inl gsd))]) hP [0, 1] rfl
            refine cl_P (W.runV (As := [.int h]) (rest := []) ⟨hx, hb, hml, hown, hts⟩ (c_M_isHole l D cs m0 mtp sta sru msg mln mcl mcs mrd snx swr snu ste sma sde sli mop sod mst sto mwd msd sx_ mws sun mfr mqu miw sfi swa sdx mim mix mmd gsd h hsi) ⟨callB_of 1 hts (gd_C qq_7_37) rfl rfl rfl (hT _ qq_1_9) (hT _ qq_7_34) (by decide +kernel) (rm_R rfl rfl), (hT _ qq_7_36), (hT _ qs_5_1)⟩ (pq_V hPc hK hN (ci := 10) (q0 := 0) rfl rfl) rfl rfl hl.1 rfl (lv_room (Nat.le_of_ble_eq_true rfl)) dX12_crease_71 ⟨Nat.le_of_ble_eq_true rfl, Nat.le_of_ble_eq_true rfl⟩) (fun v9 hz_325 => ?_)
            obtain ⟨x_324, rfl, r_326⟩ := hz_325
            refine lv_if_eq (tgt := 108) hx hb dX12_crease_74 (by decide) (fun c_327 => ?_) (fun c_327 => ?_)
            · have r_328 : Rg 0 0 x_324 := Rg.eq_l c_327 r_326.1 (Rg.c (c := 0) (k := 0) rfl) (by decide)
              refine lv_bipush (v := (-2)) hx hb dX12_crease_108 (by decide) ?_
              refine W.widen (k := 0) (n := 0) (Nat.le_of_ble_eq_true rfl) (Nat.le_of_ble_eq_true rfl) ?_
              have hP9 := hP.sub (ws' := [(m0, .inr (10, (.ref mtp :: .int sta :: .int sru :: .ref msg :: .ref mln :: .ref mcl :: .ref mcs :: .ref mrd :: .int snx :: .int swr :: .int snu :: .int ste :: .int sma :: .int sde :: .int sli :: .ref mop :: .int sod :: .ref mst :: .int sto :: .ref mwd :: .ref msd :: .int sx_ :: .ref mws :: .int sun :: .ref mfr :: .ref mqu :: .ref miw :: .int sfi :: .int swa :: .long sdx :: .ref mim :: .ref mix :: .ref mmd :: []))), (msd, .inl ((cs 0), 133, .inl gsd))]) [0, 1] rfl
              have hD9 := hD.sub (ws' := [(m0, .inr (10, (.ref mtp :: .int sta :: .int sru :: .ref msg :: .ref mln :: .ref mcl :: .ref mcs :: .ref mrd :: .int snx :: .int swr :: .int snu :: .int ste :: .int sma :: .int sde :: .int sli :: .ref mop :: .int sod :: .ref mst :: .int sto :: .ref mwd :: .ref msd :: .int sx_ :: .ref mws :: .int sun :: .ref mfr :: .ref mqu :: .ref miw :: .int sfi :: .int swa :: .long sdx :: .ref mim :: .ref mix :: .ref mmd :: []))), (msd, .inl ((cs 0), 133, .inl gsd))]) [0, 1] (by decide) rfl
              exact W.iret (v := (-2)) hx hb hr (fun t9 ht9 hW9 => ⟨⟨_, (), rfl, trivial, ⟨gsd, hsi, rfl, by rw [ht9]; exact hP9, hD9⟩⟩, hS.F ht9⟩) hS.2.2 dX12_crease_110
            · have r_329 : Rg 1 1 x_324 := Rg.ne c_327 r_326.1 (Rg.c (c := 0) (k := 0) rfl) (by decide)
              have r_330 : Rg 0 7 h := hb_r (r_326.2.1 c_327) (hsi).a1 (by decide)
              refine lv_iload hx hb dX12_crease_77 (lv_at hl 1 rfl) ?_
              refine lv_if_eq (tgt := 86) hx hb dX12_crease_79 (by decide) (fun c_331 => False.elim (Rg.no_eq c_331 (Rg.c (c := 1) (k := 1) rfl) (Rg.c (c := 0) (k := 0) rfl) (by decide))) (fun c_331 => ?_)
              refine lv_iload_n hx hb dX12_crease_82 rfl (lv_at hl 5 rfl) ?_
              refine lv_if_ne (tgt := 108) hx hb dX12_crease_83 (by decide) (fun c_332 => ?_) (fun c_332 => ?_)
              · have r_333 : Rg 1 7 h := Rg.ne c_332 r_330 (Rg.c (c := 0) (k := 0) rfl) (by decide)
                refine lv_bipush (v := (-2)) hx hb dX12_crease_108 (by decide) ?_
                refine W.widen (k := 0) (n := 0) (Nat.le_of_ble_eq_true rfl) (Nat.le_of_ble_eq_true rfl) ?_
                have hP9 := hP.sub (ws' := [(m0, .inr (10, (.ref mtp :: .int sta :: .int sru :: .ref msg :: .ref mln :: .ref mcl :: .ref mcs :: .ref mrd :: .int snx :: .int swr :: .int snu :: .int ste :: .int sma :: .int sde :: .int sli :: .ref mop :: .int sod :: .ref mst :: .int sto :: .ref mwd :: .ref msd :: .int sx_ :: .ref mws :: .int sun :: .ref mfr :: .ref mqu :: .ref miw :: .int sfi :: .int swa :: .long sdx :: .ref mim :: .ref mix :: .ref mmd :: []))), (msd, .inl ((cs 0), 133, .inl gsd))]) [0, 1] rfl
                have hD9 := hD.sub (ws' := [(m0, .inr (10, (.ref mtp :: .int sta :: .int sru :: .ref msg :: .ref mln :: .ref mcl :: .ref mcs :: .ref mrd :: .int snx :: .int swr :: .int snu :: .int ste :: .int sma :: .int sde :: .int sli :: .ref mop :: .int sod :: .ref mst :: .int sto :: .ref mwd :: .ref msd :: .int sx_ :: .ref mws :: .int sun :: .ref mfr :: .ref mqu :: .ref miw :: .int sfi :: .int swa :: .long sdx :: .ref mim :: .ref mix :: .ref mmd :: []))), (msd, .inl ((cs 0), 133, .inl gsd))]) [0, 1] (by decide) rfl
                exact W.iret (v := (-2)) hx hb hr (fun t9 ht9 hW9 => ⟨⟨_, (), rfl, trivial, ⟨gsd, hsi, rfl, by rw [ht9]; exact hP9, hD9⟩⟩, hS.F ht9⟩) hS.2.2 dX12_crease_110
              · have r_334 : Rg 0 0 h := Rg.eq_l c_332 r_330 (Rg.c (c := 0) (k := 0) rfl) (by decide)
                refine lv_iload hx hb dX12_crease_86 (lv_at hl 0 rfl) ?_
                refine lv_if_eq (tgt := 95) hx hb dX12_crease_88 (by decide) (fun c_335 => ?_) (fun c_335 => False.elim (Rg.no_ne c_335 (Rg.c (c := 0) (k := 0) rfl) (Rg.c (c := 0) (k := 0) rfl) (by decide)))
                refine lv_aload_n hx hb dX12_crease_95 rfl (lv_at hl 2 rfl) ?_
                refine va_get (D := D) (ci := 10) (v := .ref msd) (C := "WrongHoleModel") (T := TX12) (N := 33) hx hb hts (iq_RX12 _) hown hK hP 0 rfl rfl 20 (by decide) (hT _ qq_5_172) (fun _ h9 => h9) rfl dX12_crease_96 ?_
                refine lv_sipush (v := 132) hx hb dX12_crease_99 (by decide) ?_
                have hi_336 : vp_in 132 133 := vi_c rfl
                refine va_iald hx hb hK hP 1 0 rfl rfl hi_336 dX12_crease_102 ?_
                refine lv_topi (fun x_337 e_338 => ?_)
                have r_339 : Rg 0 10 x_337 := Rg.of e_338 (hsi.a132)
                refine lv_bipush (v := 10) hx hb dX12_crease_103 (by decide) ?_
                refine lv_icmp_ne (tgt := 111) hx hb dX12_crease_105 (by decide) (fun c_340 => ?_) (fun c_340 => ?_)
                · have r_341 : Rg 0 9 x_337 := Rg.ne c_340 r_339 (Rg.c (c := 10) (k := 10) rfl) (by decide)
                  refine lv_bipush (v := 102) hx hb dX12_crease_111 (by decide) ?_
                  refine lv_iconst (v := 3) hx hb dX12_crease_113 (by decide) ?_
                  refine lv_aload_n hx hb dX12_crease_114 rfl (lv_at hl 2 rfl) ?_
                  refine va_get (D := D) (ci := 10) (v := .ref msd) (C := "WrongHoleModel") (T := TX12) (N := 33) hx hb hts (iq_RX12 _) hown hK hP 0 rfl rfl 20 (by decide) (hT _ qq_5_172) (fun _ h9 => h9) rfl dX12_crease_115 ?_
                  refine lv_sipush (v := 132) hx hb dX12_crease_118 (by decide) ?_
                  have hi_343 : vp_in 132 133 := vi_c rfl
                  refine va_iald hx hb hK hP 1 0 rfl rfl hi_343 dX12_crease_121 ?_
                  refine lv_topi (fun x_344 e_345 => ?_)
                  have r_346 : Rg 0 10 x_344 := Rg.of e_345 (hsi).a132
                  have r_347 : Rg 0 9 x_344 := Rg.of (e_345.trans e_338.symm) r_341
                  refine lv_imul hx hb dX12_crease_122 ?_
                  refine lv_topi (fun x_348 e_349 => ?_)
                  have r_350 : Rg 0 27 x_348 := Rg.mul (ha := 3) (hb := 9) e_349 (Rg.wk (lo2 := 0) (hi2 := 3) (Rg.c (c := 3) (k := 3) rfl) (by decide)) r_347 (by decide)
                  refine lv_iadd hx hb dX12_crease_123 ?_
                  refine lv_topi (fun x_351 e_352 => ?_)
                  have r_353 : Rg 102 129 x_351 := Rg.add e_352 (Rg.c (c := 102) (k := 102) rfl) r_350 (by decide)
                  refine lv_istore (lv' := [(6, .int x_351), (5, .int 0), (4, .int 1), (0, .ref m0), (1, .int a), (2, .int b), (3, .int h)]) hx hb dX12_crease_124 hl (by decide) rfl (fun ls hl => ?_)
                  refine lv_aload_n hx hb dX12_crease_126 rfl (lv_at hl 3 rfl) ?_
                  refine va_get (D := D) (ci := 10) (v := .ref msd) (C := "WrongHoleModel") (T := TX12) (N := 33) hx hb hts (iq_RX12 _) hown hK hP 0 rfl rfl 20 (by decide) (hT _ qq_5_172) (fun _ h9 => h9) rfl dX12_crease_127 ?_
                  refine lv_iload hx hb dX12_crease_130 (lv_at hl 0 rfl) ?_
                  refine lv_iload_n hx hb dX12_crease_132 rfl (lv_at hl 4 rfl) ?_
                  have hi_354 : vp_in x_351 133 := Rg.in r_353 (by decide)
                  refine va_iast hx hb hK hP hD hS 1 0 rfl rfl hi_354 dX12_crease_133 (fun H locs hP hD hS => ?_)
                  obtain ⟨g_355, rb_356, hP, hD⟩ : ∃ g_355 : Nat → Int32, (SI g_355 ∧ g_355 0 = gsd 0 ∧ g_355 132 = gsd 132) ∧ va_P D vwCl [(m0, .inr (10, (.ref mtp :: .int sta :: .int sru :: .ref msg :: .ref mln :: .ref mcl :: .ref mcs :: .ref mrd :: .int snx :: .int swr :: .int snu :: .int ste :: .int sma :: .int sde :: .int sli :: .ref mop :: .int sod :: .ref mst :: .int sto :: .ref mwd :: .ref msd :: .int sx_ :: .ref mws :: .int sun :: .ref mfr :: .ref mqu :: .ref miw :: .int sfi :: .int swa :: .long sdx :: .ref mim :: .ref mix :: .ref mmd :: []))), (msd, .inl ((cs 0), 133, .inl g_355))] H ∧ va_D A [(m0, .inr (10, (.ref mtp :: .int sta :: .int sru :: .ref msg :: .ref mln :: .ref mcl :: .ref mcs :: .ref mrd :: .int snx :: .int swr :: .int snu :: .int ste :: .int sma :: .int sde :: .int sli :: .ref mop :: .int sod :: .ref mst :: .int sto :: .ref mwd :: .ref msd :: .int sx_ :: .ref mws :: .int sun :: .ref mfr :: .ref mqu :: .ref miw :: .int sfi :: .int swa :: .long sdx :: .ref mim :: .ref mix :: .ref mmd :: []))), (msd, .inl ((cs 0), 133, .inl g_355))] := ⟨_, ⟨si_cr hsi (show 102 ≤ cN x_351 ∧ cN x_351 < 133 from by have h9 := cN_i r_353 (by decide); have h8 := (r_353).1; have h7 := (r_353).2; exact ⟨by omega, by omega⟩) (Rg.wk (lo2 := 0) (hi2 := 7) r_82 (by decide)), (up_n (by have h9 := cN_i r_353 (by decide); have h8 := (r_353).1; show 0 ≠ cN x_351; omega)).trans rfl, (up_n (by have h9 := cN_i r_353 (by decide); have h8 := (r_353).2; show 132 ≠ cN x_351; omega)).trans rfl⟩, hP, hD⟩
                  refine lv_aload_n hx hb dX12_crease_134 rfl (lv_at hl 3 rfl) ?_
                  refine va_get (D := D) (ci := 10) (v := .ref msd) (C := "WrongHoleModel") (T := TX12) (N := 33) hx hb hts (iq_RX12 _) hown hK hP 0 rfl rfl 20 (by decide) (hT _ qq_5_172) (fun _ h9 => h9) rfl dX12_crease_135 ?_
                  refine lv_iload hx hb dX12_crease_138 (lv_at hl 0 rfl) ?_
                  refine lv_iconst (v := 1) hx hb dX12_crease_140 (by decide) ?_
                  refine lv_iadd hx hb dX12_crease_141 ?_
                  refine lv_topi (fun x_357 e_358 => ?_)
                  have r_359 : Rg 103 130 x_357 := Rg.add e_358 r_353 (Rg.c (c := 1) (k := 1) rfl) (by decide)
                  refine lv_iload_n hx hb dX12_crease_142 rfl (lv_at hl 5 rfl) ?_
                  have hi_360 : vp_in x_357 133 := Rg.in r_359 (by decide)
                  refine va_iast hx hb hK hP hD hS 1 0 rfl rfl hi_360 dX12_crease_143 (fun H locs hP hD hS => ?_)
                  obtain ⟨g_361, rb_362, hP, hD⟩ : ∃ g_361 : Nat → Int32, (SI g_361 ∧ g_361 0 = gsd 0 ∧ g_361 132 = gsd 132) ∧ va_P D vwCl [(m0, .inr (10, (.ref mtp :: .int sta :: .int sru :: .ref msg :: .ref mln :: .ref mcl :: .ref mcs :: .ref mrd :: .int snx :: .int swr :: .int snu :: .int ste :: .int sma :: .int sde :: .int sli :: .ref mop :: .int sod :: .ref mst :: .int sto :: .ref mwd :: .ref msd :: .int sx_ :: .ref mws :: .int sun :: .ref mfr :: .ref mqu :: .ref miw :: .int sfi :: .int swa :: .long sdx :: .ref mim :: .ref mix :: .ref mmd :: []))), (msd, .inl ((cs 0), 133, .inl g_361))] H ∧ va_D A [(m0, .inr (10, (.ref mtp :: .int sta :: .int sru :: .ref msg :: .ref mln :: .ref mcl :: .ref mcs :: .ref mrd :: .int snx :: .int swr :: .int snu :: .int ste :: .int sma :: .int sde :: .int sli :: .ref mop :: .int sod :: .ref mst :: .int sto :: .ref mwd :: .ref msd :: .int sx_ :: .ref mws :: .int sun :: .ref mfr :: .ref mqu :: .ref miw :: .int sfi :: .int swa :: .long sdx :: .ref mim :: .ref mix :: .ref mmd :: []))), (msd, .inl ((cs 0), 133, .inl g_361))] := ⟨_, ⟨si_cr rb_356.1 (show 102 ≤ cN x_357 ∧ cN x_357 < 133 from by have h9 := cN_i r_359 (by decide); have h8 := (r_359).1; have h7 := (r_359).2; exact ⟨by omega, by omega⟩) r_323, (up_n (by have h9 := cN_i r_359 (by decide); have h8 := (r_359).1; show 0 ≠ cN x_357; omega)).trans rb_356.2.1, (up_n (by have h9 := cN_i r_359 (by decide); have h8 := (r_359).2; show 132 ≠ cN x_357; omega)).trans rb_356.2.2⟩, hP, hD⟩
                  refine lv_aload_n hx hb dX12_crease_144 rfl (lv_at hl 3 rfl) ?_
                  refine va_get (D := D) (ci := 10) (v := .ref msd) (C := "WrongHoleModel") (T := TX12) (N := 33) hx hb hts (iq_RX12 _) hown hK hP 0 rfl rfl 20 (by decide) (hT _ qq_5_172) (fun _ h9 => h9) rfl dX12_crease_145 ?_
                  refine lv_iload hx hb dX12_crease_148 (lv_at hl 0 rfl) ?_
                  refine lv_iconst (v := 2) hx hb dX12_crease_150 (by decide) ?_
                  refine lv_iadd hx hb dX12_crease_151 ?_
                  refine lv_topi (fun x_363 e_364 => ?_)
                  have r_365 : Rg 104 131 x_363 := Rg.add e_364 r_353 (Rg.c (c := 2) (k := 2) rfl) (by decide)
                  refine lv_iload_n hx hb dX12_crease_152 rfl (lv_at hl 6 rfl) ?_
                  have hi_366 : vp_in x_363 133 := Rg.in r_365 (by decide)
                  refine va_iast hx hb hK hP hD hS 1 0 rfl rfl hi_366 dX12_crease_153 (fun H locs hP hD hS => ?_)
                  obtain ⟨g_367, rb_368, hP, hD⟩ : ∃ g_367 : Nat → Int32, (SI g_367 ∧ g_367 0 = gsd 0 ∧ g_367 132 = gsd 132) ∧ va_P D vwCl [(m0, .inr (10, (.ref mtp :: .int sta :: .int sru :: .ref msg :: .ref mln :: .ref mcl :: .ref mcs :: .ref mrd :: .int snx :: .int swr :: .int snu :: .int ste :: .int sma :: .int sde :: .int sli :: .ref mop :: .int sod :: .ref mst :: .int sto :: .ref mwd :: .ref msd :: .int sx_ :: .ref mws :: .int sun :: .ref mfr :: .ref mqu :: .ref miw :: .int sfi :: .int swa :: .long sdx :: .ref mim :: .ref mix :: .ref mmd :: []))), (msd, .inl ((cs 0), 133, .inl g_367))] H ∧ va_D A [(m0, .inr (10, (.ref mtp :: .int sta :: .int sru :: .ref msg :: .ref mln :: .ref mcl :: .ref mcs :: .ref mrd :: .int snx :: .int swr :: .int snu :: .int ste :: .int sma :: .int sde :: .int sli :: .ref mop :: .int sod :: .ref mst :: .int sto :: .ref mwd :: .ref msd :: .int sx_ :: .ref mws :: .int sun :: .ref mfr :: .ref mqu :: .ref miw :: .int sfi :: .int swa :: .long sdx :: .ref mim :: .ref mix :: .ref mmd :: []))), (msd, .inl ((cs 0), 133, .inl g_367))] := ⟨_, ⟨si_cr rb_362.1 (show 102 ≤ cN x_363 ∧ cN x_363 < 133 from by have h9 := cN_i r_365 (by decide); have h8 := (r_365).1; have h7 := (r_365).2; exact ⟨by omega, by omega⟩) (Rg.wk (lo2 := 0) (hi2 := 7) r_334 (by decide)), (up_n (by have h9 := cN_i r_365 (by decide); have h8 := (r_365).1; show 0 ≠ cN x_363; omega)).trans rb_362.2.1, (up_n (by have h9 := cN_i r_365 (by decide); have h8 := (r_365).2; show 132 ≠ cN x_363; omega)).trans rb_362.2.2⟩, hP, hD⟩
                  refine lv_aload_n hx hb dX12_crease_154 rfl (lv_at hl 3 rfl) ?_
                  refine va_get (D := D) (ci := 10) (v := .ref msd) (C := "WrongHoleModel") (T := TX12) (N := 33) hx hb hts (iq_RX12 _) hown hK hP 0 rfl rfl 20 (by decide) (hT _ qq_5_172) (fun _ h9 => h9) rfl dX12_crease_155 ?_
                  refine lv_sipush (v := 132) hx hb dX12_crease_158 (by decide) ?_
                  refine lv_dup2_11 hx hb dX12_crease_161 rfl rfl ?_
                  have hi_369 : vp_in 132 133 := vi_c rfl
                  refine va_iald hx hb hK hP 1 0 rfl rfl hi_369 dX12_crease_162 ?_
                  refine lv_topi (fun x_370 e_371 => ?_)
                  have r_372 : Rg 0 9 x_370 := Rg.of (e_371.trans (rb_368.2.2.trans e_338.symm)) r_341
                  refine lv_iconst (v := 1) hx hb dX12_crease_163 (by decide) ?_
                  refine lv_iadd hx hb dX12_crease_164 ?_
                  refine lv_topi (fun x_373 e_374 => ?_)
                  have r_375 : Rg 1 10 x_373 := Rg.add e_374 r_372 (Rg.c (c := 1) (k := 1) rfl) (by decide)
                  have hi_376 : vp_in 132 133 := vi_c rfl
                  refine va_iast hx hb hK hP hD hS 1 0 rfl rfl hi_376 dX12_crease_165 (fun H locs hP hD hS => ?_)
                  obtain ⟨g_377, rb_378, hP, hD⟩ : ∃ g_377 : Nat → Int32, (SI g_377 ∧ g_377 0 = gsd 0) ∧ va_P D vwCl [(m0, .inr (10, (.ref mtp :: .int sta :: .int sru :: .ref msg :: .ref mln :: .ref mcl :: .ref mcs :: .ref mrd :: .int snx :: .int swr :: .int snu :: .int ste :: .int sma :: .int sde :: .int sli :: .ref mop :: .int sod :: .ref mst :: .int sto :: .ref mwd :: .ref msd :: .int sx_ :: .ref mws :: .int sun :: .ref mfr :: .ref mqu :: .ref miw :: .int sfi :: .int swa :: .long sdx :: .ref mim :: .ref mix :: .ref mmd :: []))), (msd, .inl ((cs 0), 133, .inl g_377))] H ∧ va_D A [(m0, .inr (10, (.ref mtp :: .int sta :: .int sru :: .ref msg :: .ref mln :: .ref mcl :: .ref mcs :: .ref mrd :: .int snx :: .int swr :: .int snu :: .int ste :: .int sma :: .int sde :: .int sli :: .ref mop :: .int sod :: .ref mst :: .int sto :: .ref mwd :: .ref msd :: .int sx_ :: .ref mws :: .int sun :: .ref mfr :: .ref mqu :: .ref miw :: .int sfi :: .int swa :: .long sdx :: .ref mim :: .ref mix :: .ref mmd :: []))), (msd, .inl ((cs 0), 133, .inl g_377))] := ⟨_, ⟨si_132 rb_368.1 (Rg.wk (lo2 := 0) (hi2 := 10) r_375 (by decide)), (up_n (by decide)).trans rb_368.2.1⟩, hP, hD⟩
                  refine lv_aload_n hx hb dX12_crease_166 rfl (lv_at hl 3 rfl) ?_
                  refine va_get (D := D) (ci := 10) (v := .ref msd) (C := "WrongHoleModel") (T := TX12) (N := 33) hx hb hts (iq_RX12 _) hown hK hP 0 rfl rfl 20 (by decide) (hT _ qq_5_172) (fun _ h9 => h9) rfl dX12_crease_167 ?_
                  refine lv_sipush (v := 132) hx hb dX12_crease_170 (by decide) ?_
                  have hi_379 : vp_in 132 133 := vi_c rfl
                  refine va_iald hx hb hK hP 1 0 rfl rfl hi_379 dX12_crease_173 ?_
                  refine lv_topi (fun x_380 e_381 => ?_)
                  have r_382 : Rg 0 10 x_380 := Rg.of e_381 (rb_378.1.a132)
                  refine W.widen (k := 0) (n := 0) (Nat.le_of_ble_eq_true rfl) (Nat.le_of_ble_eq_true rfl) ?_
                  have hP9 := hP.sub (ws' := [(m0, .inr (10, (.ref mtp :: .int sta :: .int sru :: .ref msg :: .ref mln :: .ref mcl :: .ref mcs :: .ref mrd :: .int snx :: .int swr :: .int snu :: .int ste :: .int sma :: .int sde :: .int sli :: .ref mop :: .int sod :: .ref mst :: .int sto :: .ref mwd :: .ref msd :: .int sx_ :: .ref mws :: .int sun :: .ref mfr :: .ref mqu :: .ref miw :: .int sfi :: .int swa :: .long sdx :: .ref mim :: .ref mix :: .ref mmd :: []))), (msd, .inl ((cs 0), 133, .inl g_377))]) [0, 1] rfl
                  have hD9 := hD.sub (ws' := [(m0, .inr (10, (.ref mtp :: .int sta :: .int sru :: .ref msg :: .ref mln :: .ref mcl :: .ref mcs :: .ref mrd :: .int snx :: .int swr :: .int snu :: .int ste :: .int sma :: .int sde :: .int sli :: .ref mop :: .int sod :: .ref mst :: .int sto :: .ref mwd :: .ref msd :: .int sx_ :: .ref mws :: .int sun :: .ref mfr :: .ref mqu :: .ref miw :: .int sfi :: .int swa :: .long sdx :: .ref mim :: .ref mix :: .ref mmd :: []))), (msd, .inl ((cs 0), 133, .inl g_377))]) [0, 1] (by decide) rfl
                  exact W.iret (v := x_380) hx hb hr (fun t9 ht9 hW9 => ⟨⟨_, (), rfl, trivial, ⟨g_377, rb_378.1, rb_378.2, by rw [ht9]; exact hP9, hD9⟩⟩, hS.F ht9⟩) hS.2.2 dX12_crease_174
                · have r_342 : Rg 10 10 x_337 := Rg.eq_l c_340 r_339 (Rg.c (c := 10) (k := 10) rfl) (by decide)
                  refine lv_bipush (v := (-2)) hx hb dX12_crease_108 (by decide) ?_
                  refine W.widen (k := 0) (n := 0) (Nat.le_of_ble_eq_true rfl) (Nat.le_of_ble_eq_true rfl) ?_
                  have hP9 := hP.sub (ws' := [(m0, .inr (10, (.ref mtp :: .int sta :: .int sru :: .ref msg :: .ref mln :: .ref mcl :: .ref mcs :: .ref mrd :: .int snx :: .int swr :: .int snu :: .int ste :: .int sma :: .int sde :: .int sli :: .ref mop :: .int sod :: .ref mst :: .int sto :: .ref mwd :: .ref msd :: .int sx_ :: .ref mws :: .int sun :: .ref mfr :: .ref mqu :: .ref miw :: .int sfi :: .int swa :: .long sdx :: .ref mim :: .ref mix :: .ref mmd :: []))), (msd, .inl ((cs 0), 133, .inl gsd))]) [0, 1] rfl
                  have hD9 := hD.sub (ws' := [(m0, .inr (10, (.ref mtp :: .int sta :: .int sru :: .ref msg :: .ref mln :: .ref mcl :: .ref mcs :: .ref mrd :: .int snx :: .int swr :: .int snu :: .int ste :: .int sma :: .int sde :: .int sli :: .ref mop :: .int sod :: .ref mst :: .int sto :: .ref mwd :: .ref msd :: .int sx_ :: .ref mws :: .int sun :: .ref mfr :: .ref mqu :: .ref miw :: .int sfi :: .int swa :: .long sdx :: .ref mim :: .ref mix :: .ref mmd :: []))), (msd, .inl ((cs 0), 133, .inl gsd))]) [0, 1] (by decide) rfl
                  exact W.iret (v := (-2)) hx hb hr (fun t9 ht9 hW9 => ⟨⟨_, (), rfl, trivial, ⟨gsd, hsi, rfl, by rw [ht9]; exact hP9, hD9⟩⟩, hS.F ht9⟩) hS.2.2 dX12_crease_110
  · have r_2 : Rg (-1) (-1) a := Rg.eq_l c_1 (Rg.top a) (Rg.c (c := (-1)) (k := (-1)) rfl) (by decide)
    refine lv_aload_n hx hb dX12_crease_5 rfl (lv_at hl 0 rfl) ?_
    refine va_get (D := D) (ci := 10) (v := .ref msd) (C := "WrongHoleModel") (T := TX12) (N := 33) hx hb hts (iq_RX12 _) hown hK hP 0 rfl rfl 20 (by decide) (hT _ qq_5_172) (fun _ h9 => h9) rfl dX12_crease_6 ?_
    refine lv_sipush (v := 132) hx hb dX12_crease_9 (by decide) ?_
    refine lv_iconst (v := 0) hx hb dX12_crease_12 (by decide) ?_
    have hi_383 : vp_in 132 133 := vi_c rfl
    refine va_iast hx hb hK hP hD hS 1 0 rfl rfl hi_383 dX12_crease_13 (fun H locs hP hD hS => ?_)
    obtain ⟨g_384, rb_385, hP, hD⟩ : ∃ g_384 : Nat → Int32, (SI g_384 ∧ g_384 0 = gsd 0) ∧ va_P D vwCl [(m0, .inr (10, (.ref mtp :: .int sta :: .int sru :: .ref msg :: .ref mln :: .ref mcl :: .ref mcs :: .ref mrd :: .int snx :: .int swr :: .int snu :: .int ste :: .int sma :: .int sde :: .int sli :: .ref mop :: .int sod :: .ref mst :: .int sto :: .ref mwd :: .ref msd :: .int sx_ :: .ref mws :: .int sun :: .ref mfr :: .ref mqu :: .ref miw :: .int sfi :: .int swa :: .long sdx :: .ref mim :: .ref mix :: .ref mmd :: []))), (msd, .inl ((cs 0), 133, .inl g_384))] H ∧ va_D A [(m0, .inr (10, (.ref mtp :: .int sta :: .int sru :: .ref msg :: .ref mln :: .ref mcl :: .ref mcs :: .ref mrd :: .int snx :: .int swr :: .int snu :: .int ste :: .int sma :: .int sde :: .int sli :: .ref mop :: .int sod :: .ref mst :: .int sto :: .ref mwd :: .ref msd :: .int sx_ :: .ref mws :: .int sun :: .ref mfr :: .ref mqu :: .ref miw :: .int sfi :: .int swa :: .long sdx :: .ref mim :: .ref mix :: .ref mmd :: []))), (msd, .inl ((cs 0), 133, .inl g_384))] := ⟨_, ⟨si_132 hsi (Rg.wk (lo2 := 0) (hi2 := 10) (Rg.c (c := 0) (k := 0) rfl) (by decide)), (up_n (by decide)).trans rfl⟩, hP, hD⟩
    refine lv_iconst (v := 0) hx hb dX12_crease_14 (by decide) ?_
    refine W.widen (k := 0) (n := 0) (Nat.le_of_ble_eq_true rfl) (Nat.le_of_ble_eq_true rfl) ?_
    have hP9 := hP.sub (ws' := [(m0, .inr (10, (.ref mtp :: .int sta :: .int sru :: .ref msg :: .ref mln :: .ref mcl :: .ref mcs :: .ref mrd :: .int snx :: .int swr :: .int snu :: .int ste :: .int sma :: .int sde :: .int sli :: .ref mop :: .int sod :: .ref mst :: .int sto :: .ref mwd :: .ref msd :: .int sx_ :: .ref mws :: .int sun :: .ref mfr :: .ref mqu :: .ref miw :: .int sfi :: .int swa :: .long sdx :: .ref mim :: .ref mix :: .ref mmd :: []))), (msd, .inl ((cs 0), 133, .inl g_384))]) [0, 1] rfl
    have hD9 := hD.sub (ws' := [(m0, .inr (10, (.ref mtp :: .int sta :: .int sru :: .ref msg :: .ref mln :: .ref mcl :: .ref mcs :: .ref mrd :: .int snx :: .int swr :: .int snu :: .int ste :: .int sma :: .int sde :: .int sli :: .ref mop :: .int sod :: .ref mst :: .int sto :: .ref mwd :: .ref msd :: .int sx_ :: .ref mws :: .int sun :: .ref mfr :: .ref mqu :: .ref miw :: .int sfi :: .int swa :: .long sdx :: .ref mim :: .ref mix :: .ref mmd :: []))), (msd, .inl ((cs 0), 133, .inl g_384))]) [0, 1] (by decide) rfl
    exact W.iret (v := 0) hx hb hr (fun t9 ht9 hW9 => ⟨⟨_, (), rfl, trivial, ⟨g_384, rb_385.1, rb_385.2, by rw [ht9]; exact hP9, hD9⟩⟩, hS.F ht9⟩) hS.2.2 dX12_crease_15
