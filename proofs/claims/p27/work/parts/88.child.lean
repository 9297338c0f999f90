theorem dX12_divisor_0 : decode cX12_divisor 0 = .ok (.iload_n 0, 1) := by decide +kernel
theorem dX12_divisor_1 : decode cX12_divisor 1 = .ok (.istore_n 2, 1) := by decide +kernel
theorem dX12_divisor_2 : decode cX12_divisor 2 = .ok (.iload_n 1, 1) := by decide +kernel
theorem dX12_divisor_3 : decode cX12_divisor 3 = .ok (.istore_n 3, 1) := by decide +kernel
theorem dX12_divisor_4 : decode cX12_divisor 4 = .ok (.iload_n 3, 1) := by decide +kernel
theorem dX12_divisor_5 : decode cX12_divisor 5 = .ok (.ifCond .eq 16, 3) := by decide +kernel
theorem dX12_divisor_21 : decode cX12_divisor 21 = .ok (.iload_n 2, 1) := by decide +kernel
theorem dX12_divisor_22 : decode cX12_divisor 22 = .ok (.ireturn, 1) := by decide +kernel
theorem dX12_divisor_8 : decode cX12_divisor 8 = .ok (.iload_n 2, 1) := by decide +kernel
theorem dX12_divisor_9 : decode cX12_divisor 9 = .ok (.iload_n 3, 1) := by decide +kernel
theorem dX12_divisor_10 : decode cX12_divisor 10 = .ok (.irem, 1) := by decide +kernel
theorem dX12_divisor_11 : decode cX12_divisor 11 = .ok (.istore 4, 2) := by decide +kernel
theorem dX12_divisor_13 : decode cX12_divisor 13 = .ok (.iload_n 3, 1) := by decide +kernel
theorem dX12_divisor_14 : decode cX12_divisor 14 = .ok (.istore_n 2, 1) := by decide +kernel
theorem dX12_divisor_15 : decode cX12_divisor 15 = .ok (.iload 4, 2) := by decide +kernel
theorem dX12_divisor_17 : decode cX12_divisor 17 = .ok (.istore_n 3, 1) := by decide +kernel
theorem dX12_divisor_18 : decode cX12_divisor 18 = .ok (.goto (-14), 3) := by decide +kernel
set_option maxHeartbeats 4000000 in
set_option maxRecDepth 100000 in
theorem c_M_divisor (l : Launch) (D : va_G) (cs : Nat → ClassId) (a : Int32) (b : Int32) (r_a : Rg 1 9 a) (r_b : Rg 0 2147483647 b) : Met l yX12_divisor (Cond.code yX12_divisor cX12_divisor 5 (some .int) :: TB) (RM 0 0 0) (va_Pc [.int a, .int b] (PRR D cs [])) (QP (fun v => ∃ x : Int32, v = .int x ∧ Rg 1 2147483647 x)) 0 0 (fun _ => False) := by
  refine MER (y := yX12_divisor) (cc := cX12_divisor) (maxL := 5) (ret := (some .int)) (d := 0) (D := D) (cs := cs) (ws := []) (av := [.int a, .int b]) (Qc := QP (fun v => ∃ x : Int32, v = .int x ∧ Rg 1 2147483647 x)) (by decide) (Nat.le_of_ble_eq_true rfl) ?_
  intro p e s m below meth c ls H hHe hx hb hr hml hown hts hlocks hP hK hN hl
  obtain ⟨locs, hlc⟩ : ∃ z : List Loc, z = [] := ⟨_, rfl⟩
  rw [← hlc]
  have hown : s.vm.findClass "WrongHoleModel" = some m.cls := hown
  have hT : ∀ w ∈ TB, w.before ([.int a, .int b] : List Value).toArray s = true := fun w h => hts w (List.mem_cons_of_mem _ h)
  have hl : lv_has ls 5 [(0, .int a), (1, .int b)] := hl
  have hP : va_P D vwCl [] H := hP
  refine lv_iload_n hx hb dX12_divisor_0 rfl (lv_at hl 0 rfl) ?_
  refine lv_istore_n (lv' := [(2, .int a), (0, .int a), (1, .int b)]) hx hb dX12_divisor_1 rfl hl (by decide) rfl (fun ls hl => ?_)
  refine lv_iload_n hx hb dX12_divisor_2 rfl (lv_at hl 2 rfl) ?_
  refine lv_istore_n (lv' := [(3, .int b), (2, .int a), (0, .int a), (1, .int b)]) hx hb dX12_divisor_3 rfl hl (by decide) rfl (fun ls hl => ?_)
  refine w_wh (σ := (Int32) × (Int32)) (fun x9 H locs ls => match x9 with | (v_10, v_11) => Rg 0 2147483647 v_10 ∧ Rg 1 2147483647 v_11 ∧ H = s.heap ∧ locs = [] ∧ va_P D vwCl [] H ∧ lv_has ls 5 [(3, .int v_10), (2, .int v_11), (0, .int a), (1, .int b)]) (fun x9 => match x9 with | (v_10, v_11) => cN v_10) 4 ?_ (b, a) H locs ls ⟨r_b, (Rg.wk (lo2 := 1) (hi2 := 2147483647) r_a (by decide)), hHe, hlc, hP, lv_sub hl [0, 1, 2, 3] rfl⟩
  rintro ⟨v_10, v_11⟩ H locs ls ⟨r_49, r_50, hHe, hlc, hP, hl⟩ ih_48
  refine lv_iload_n hx hb dX12_divisor_4 rfl (lv_at hl 0 rfl) ?_
  refine lv_if_eq (tgt := 21) hx hb dX12_divisor_5 (by decide) (fun c_51 => ?_) (fun c_51 => ?_)
  · have r_52 : Rg 0 0 v_10 := Rg.eq_l c_51 r_49 (Rg.c (c := 0) (k := 0) rfl) (by decide)
    refine lv_iload_n hx hb dX12_divisor_21 rfl (lv_at hl 1 rfl) ?_
    exact W.iret (v := v_11) hx hb hr (fun t9 ht9 hW9 => ⟨⟨_, rfl, _, rfl, r_50⟩, ht9.trans hHe⟩) (fun _ h9 => by rw [hlc] at h9; exact absurd h9 List.not_mem_nil) dX12_divisor_22
  · have r_53 : Rg 1 2147483647 v_10 := Rg.ne c_51 r_49 (Rg.c (c := 0) (k := 0) rfl) (by decide)
    refine lv_iload_n hx hb dX12_divisor_8 rfl (lv_at hl 1 rfl) ?_
    refine lv_iload_n hx hb dX12_divisor_9 rfl (lv_at hl 0 rfl) ?_
    refine lv_irem hx hb dX12_divisor_10 (Rg.nz r_53 (by decide)) ?_
    refine lv_topi (fun x_57 e_58 => ?_)
    have r_59 : Rg 0 2147483646 x_57 := Rg.rem e_58 (Rg.wk (lo2 := 0) (hi2 := 2147483647) r_50 (by decide)) r_53 (by decide)
    refine lv_istore (lv' := [(4, .int x_57), (3, .int v_10), (2, .int v_11), (0, .int a), (1, .int b)]) hx hb dX12_divisor_11 hl (by decide) rfl (fun ls hl => ?_)
    refine lv_iload_n hx hb dX12_divisor_13 rfl (lv_at hl 1 rfl) ?_
    refine lv_istore_n (lv' := [(2, .int v_10), (4, .int x_57), (3, .int v_10), (0, .int a), (1, .int b)]) hx hb dX12_divisor_14 rfl hl (by decide) rfl (fun ls hl => ?_)
    refine lv_iload hx hb dX12_divisor_15 (lv_at hl 1 rfl) ?_
    refine lv_istore_n (lv' := [(3, .int x_57), (2, .int v_10), (4, .int x_57), (0, .int a), (1, .int b)]) hx hb dX12_divisor_17 rfl hl (by decide) rfl (fun ls hl => ?_)
    refine lv_goto (tgt := 4) hx hb dX12_divisor_18 (by decide) ?_
    exact ih_48 (x_57, v_10) _ _ _ ⟨(Rg.wk (lo2 := 0) (hi2 := 2147483647) r_59 (by decide)), r_53, hHe, hlc, hP, lv_sub hl [0, 1, 3, 4] rfl⟩ ((show cN x_57 < cN v_10 from rem_lt (Rg.wk (lo2 := 0) (hi2 := 2147483647) r_50 (by decide)) r_53 e_58))
theorem dX12_child_0 : decode cX12_child 0 = .ok (.aload_n 0, 1) := by decide +kernel
theorem dX12_child_1 : decode cX12_child 1 = .ok (.invokevirtual 397, 3) := by decide +kernel
theorem dX12_child_4 : decode cX12_child 4 = .ok (.ifCond .eq 36, 3) := by decide +kernel
theorem dX12_child_40 : decode cX12_child 40 = .ok (.iconst (-1), 1) := by decide +kernel
theorem dX12_child_41 : decode cX12_child 41 = .ok (.ireturn, 1) := by decide +kernel
theorem dX12_child_7 : decode cX12_child 7 = .ok (.iload_n 2, 1) := by decide +kernel
theorem dX12_child_8 : decode cX12_child 8 = .ok (.i2l, 1) := by decide +kernel
theorem dX12_child_9 : decode cX12_child 9 = .ok (.lconst 1, 1) := by decide +kernel
theorem dX12_child_10 : decode cX12_child 10 = .ok (.ldc2_w 495, 3) := by decide +kernel
theorem dX12_child_13 : decode cX12_child 13 = .ok (.invokestatic 104, 3) := by decide +kernel
theorem dX12_child_16 : decode cX12_child 16 = .ok (.ifCond .eq 24, 3) := by decide +kernel
theorem dX12_child_19 : decode cX12_child 19 = .ok (.iload_n 1, 1) := by decide +kernel
theorem dX12_child_20 : decode cX12_child 20 = .ok (.i2l, 1) := by decide +kernel
theorem dX12_child_21 : decode cX12_child 21 = .ok (.lconst 1, 1) := by decide +kernel
theorem dX12_child_22 : decode cX12_child 22 = .ok (.iload_n 2, 1) := by decide +kernel
theorem dX12_child_23 : decode cX12_child 23 = .ok (.i2l, 1) := by decide +kernel
theorem dX12_child_24 : decode cX12_child 24 = .ok (.invokestatic 104, 3) := by decide +kernel
theorem dX12_child_27 : decode cX12_child 27 = .ok (.ifCond .eq 13, 3) := by decide +kernel
theorem dX12_child_30 : decode cX12_child 30 = .ok (.iload_n 3, 1) := by decide +kernel
theorem dX12_child_31 : decode cX12_child 31 = .ok (.i2l, 1) := by decide +kernel
theorem dX12_child_32 : decode cX12_child 32 = .ok (.lconst 0, 1) := by decide +kernel
theorem dX12_child_33 : decode cX12_child 33 = .ok (.lconst 1, 1) := by decide +kernel
theorem dX12_child_34 : decode cX12_child 34 = .ok (.invokestatic 104, 3) := by decide +kernel
theorem dX12_child_37 : decode cX12_child 37 = .ok (.ifCond .ne 5, 3) := by decide +kernel
theorem dX12_child_42 : decode cX12_child 42 = .ok (.aload_n 0, 1) := by decide +kernel
theorem dX12_child_43 : decode cX12_child 43 = .ok (.invokevirtual 479, 3) := by decide +kernel
theorem dX12_child_46 : decode cX12_child 46 = .ok (.aload_n 0, 1) := by decide +kernel
theorem dX12_child_47 : decode cX12_child 47 = .ok (.invokevirtual 402, 3) := by decide +kernel
theorem dX12_child_50 : decode cX12_child 50 = .ok (.istore 4, 2) := by decide +kernel
theorem dX12_child_52 : decode cX12_child 52 = .ok (.aload_n 0, 1) := by decide +kernel
theorem dX12_child_53 : decode cX12_child 53 = .ok (.getfield 46, 3) := by decide +kernel
theorem dX12_child_56 : decode cX12_child 56 = .ok (.iload 4, 2) := by decide +kernel
theorem dX12_child_58 : decode cX12_child 58 = .ok (.iaload, 1) := by decide +kernel
theorem dX12_child_59 : decode cX12_child 59 = .ok (.ifCond .ge 6, 3) := by decide +kernel
theorem dX12_child_65 : decode cX12_child 65 = .ok (.iconst 0, 1) := by decide +kernel
theorem dX12_child_66 : decode cX12_child 66 = .ok (.istore 5, 2) := by decide +kernel
theorem dX12_child_68 : decode cX12_child 68 = .ok (.aload_n 0, 1) := by decide +kernel
theorem dX12_child_69 : decode cX12_child 69 = .ok (.iload 4, 2) := by decide +kernel
theorem dX12_child_71 : decode cX12_child 71 = .ok (.invokevirtual 482, 3) := by decide +kernel
theorem dX12_child_74 : decode cX12_child 74 = .ok (.istore 6, 2) := by decide +kernel
theorem dX12_child_76 : decode cX12_child 76 = .ok (.iload 6, 2) := by decide +kernel
theorem dX12_child_78 : decode cX12_child 78 = .ok (.ifCond .lt 48, 3) := by decide +kernel
theorem dX12_child_126 : decode cX12_child 126 = .ok (.iload_n 3, 1) := by decide +kernel
theorem dX12_child_127 : decode cX12_child 127 = .ok (.ifCond .ne 8, 3) := by decide +kernel
theorem dX12_child_136 : decode cX12_child 136 = .ok (.iload_n 1, 1) := by decide +kernel
theorem dX12_child_137 : decode cX12_child 137 = .ok (.iload 5, 2) := by decide +kernel
theorem dX12_child_139 : decode cX12_child 139 = .ok (.invokestatic 497, 3) := by decide +kernel
theorem qq_8_39 : Cond.code yX12_divisor cX12_divisor 5 (some .int) ∈ TB := mk_tb (ti_8 (List.mem_of_getElem? (i := 39) rfl)) rfl
theorem qq_8_37 : Cond.methodLink "WrongHoleModel" 497 yX12_divisor ∈ TB := mk_tb (ti_8 (List.mem_of_getElem? (i := 37) rfl)) rfl
theorem qq_8_38 : Cond.static yX12_divisor ∈ TB := mk_tb (ti_8 (List.mem_of_getElem? (i := 38) rfl)) rfl
theorem dX12_child_142 : decode cX12_child 142 = .ok (.idiv, 1) := by decide +kernel
theorem dX12_child_143 : decode cX12_child 143 = .ok (.ireturn, 1) := by decide +kernel
theorem dX12_child_135 : decode cX12_child 135 = .ok (.iload_n 1, 1) := by decide +kernel
theorem dX12_child_130 : decode cX12_child 130 = .ok (.iload 5, 2) := by decide +kernel
theorem dX12_child_132 : decode cX12_child 132 = .ok (.goto 4, 3) := by decide +kernel
theorem dX12_child_81 : decode cX12_child 81 = .ok (.iload 5, 2) := by decide +kernel
theorem dX12_child_83 : decode cX12_child 83 = .ok (.aload_n 0, 1) := by decide +kernel
theorem dX12_child_84 : decode cX12_child 84 = .ok (.iload 6, 2) := by decide +kernel
theorem dX12_child_86 : decode cX12_child 86 = .ok (.invokevirtual 416, 3) := by decide +kernel
theorem dX12_child_89 : decode cX12_child 89 = .ok (.iload 6, 2) := by decide +kernel
theorem dX12_child_91 : decode cX12_child 91 = .ok (.bipush 8, 2) := by decide +kernel
theorem dX12_child_93 : decode cX12_child 93 = .ok (.if_icmp .ge 7, 3) := by decide +kernel
theorem dX12_child_101 : decode cX12_child 101 = .ok (.imul, 1) := by decide +kernel
theorem dX12_child_102 : decode cX12_child 102 = .ok (.iadd, 1) := by decide +kernel
theorem dX12_child_103 : decode cX12_child 103 = .ok (.istore 5, 2) := by decide +kernel
theorem dX12_child_105 : decode cX12_child 105 = .ok (.aload_n 0, 1) := by decide +kernel
theorem dX12_child_106 : decode cX12_child 106 = .ok (.iload 4, 2) := by decide +kernel
theorem dX12_child_108 : decode cX12_child 108 = .ok (.iload 6, 2) := by decide +kernel
theorem dX12_child_110 : decode cX12_child 110 = .ok (.invokevirtual 381, 3) := by decide +kernel
theorem dX12_child_113 : decode cX12_child 113 = .ok (.istore 4, 2) := by decide +kernel
theorem dX12_child_115 : decode cX12_child 115 = .ok (.aload_n 0, 1) := by decide +kernel
theorem dX12_child_116 : decode cX12_child 116 = .ok (.iload 4, 2) := by decide +kernel
theorem dX12_child_118 : decode cX12_child 118 = .ok (.invokevirtual 482, 3) := by decide +kernel
theorem dX12_child_121 : decode cX12_child 121 = .ok (.istore 6, 2) := by decide +kernel
theorem dX12_child_123 : decode cX12_child 123 = .ok (.goto (-47), 3) := by decide +kernel
theorem dX12_child_100 : decode cX12_child 100 = .ok (.iload_n 2, 1) := by decide +kernel
theorem dX12_child_96 : decode cX12_child 96 = .ok (.iload_n 1, 1) := by decide +kernel
theorem dX12_child_97 : decode cX12_child 97 = .ok (.goto 4, 3) := by decide +kernel
theorem dX12_child_62 : decode cX12_child 62 = .ok (.bipush (-2), 2) := by decide +kernel
theorem dX12_child_64 : decode cX12_child 64 = .ok (.ireturn, 1) := by decide +kernel
set_option maxHeartbeats 4000000 in
set_option maxRecDepth 100000 in
theorem c_M_child (l : Launch) (D : va_G) (cs : Nat → ClassId) (X : XX) (sz : Nat) (m0 : Nat) (mtp : Nat) (sta : Int32) (sru : Int32) (msg : Nat) (mln : Nat) (mcl : Nat) (mcs : Nat) (mrd : Nat) (snx : Int32) (swr : Int32) (snu : Int32) (ste : Int32) (sma : Int32) (sde : Int32) (sli : Int32) (mop : Nat) (sod : Int32) (mst : Nat) (sto : Int32) (mwd : Nat) (msd : Nat) (sx_ : Int32) (mws : Nat) (sun : Int32) (mfr : Nat) (mqu : Nat) (miw : Nat) (sfi : Int32) (swa : Int32) (sdx : Int64) (mim : Nat) (mix : Nat) (mmd : Nat) (gsd : Nat → Int32) (gfr : Nat → Int32) (gqu : Nat → Int32) (giw : Nat → Int32) (a : Int32) (b : Int32) (h : Int32) (hsi : SI gsd) (hqb : QBK gqu) : Met l yX12_child (Cond.code yX12_child cX12_child 7 (some .int) :: TB) (RM 7 0 0) (va_Pc [.ref m0, .int a, .int b, .int h] (PRE D cs X [(m0, .inr (10, (.ref mtp :: .int sta :: .int sru :: .ref msg :: .ref mln :: .ref mcl :: .ref mcs :: .ref mrd :: .int snx :: .int swr :: .int snu :: .int ste :: .int sma :: .int sde :: .int sli :: .ref mop :: .int sod :: .ref mst :: .int sto :: .ref mwd :: .ref msd :: .int sx_ :: .ref mws :: .int sun :: .ref mfr :: .ref mqu :: .ref miw :: .int sfi :: .int swa :: .long sdx :: .ref mim :: .ref mix :: .ref mmd :: []))), (msd, .inl ((cs 0), 133, .inl gsd)), (mfr, .inl ((cs 0), 65536, .inl gfr)), (mqu, .inl ((cs 0), 65536, .inl gqu)), (miw, .inl ((cs 3), 65536, .inl giw))] [] sz)) (va_Qi (S := Unit) (fun r _ => True) (fun _ t => ∃ (sfi2 : Int32), ∃ (swa2 : Int32), ∃ (gfr2 : Nat → Int32), ∃ (gqu2 : Nat → Int32), ∃ (giw2 : Nat → Int32), (QBK gqu2) ∧ va_P D vwCl [(m0, .inr (10, (.ref mtp :: .int sta :: .int sru :: .ref msg :: .ref mln :: .ref mcl :: .ref mcs :: .ref mrd :: .int snx :: .int swr :: .int snu :: .int ste :: .int sma :: .int sde :: .int sli :: .ref mop :: .int sod :: .ref mst :: .int sto :: .ref mwd :: .ref msd :: .int sx_ :: .ref mws :: .int sun :: .ref mfr :: .ref mqu :: .ref miw :: .int sfi2 :: .int swa2 :: .long sdx :: .ref mim :: .ref mix :: .ref mmd :: []))), (msd, .inl ((cs 0), 133, .inl gsd)), (mfr, .inl ((cs 0), 65536, .inl gfr2)), (mqu, .inl ((cs 0), 65536, .inl gqu2)), (miw, .inl ((cs 3), 65536, .inl giw2))] t.heap ∧ va_D (va_A [(m0, .inr (10, (.ref mtp :: .int sta :: .int sru :: .ref msg :: .ref mln :: .ref mcl :: .ref mcs :: .ref mrd :: .int snx :: .int swr :: .int snu :: .int ste :: .int sma :: .int sde :: .int sli :: .ref mop :: .int sod :: .ref mst :: .int sto :: .ref mwd :: .ref msd :: .int sx_ :: .ref mws :: .int sun :: .ref mfr :: .ref mqu :: .ref miw :: .int sfi :: .int swa :: .long sdx :: .ref mim :: .ref mix :: .ref mmd :: []))), (msd, .inl ((cs 0), 133, .inl gsd)), (mfr, .inl ((cs 0), 65536, .inl gfr)), (mqu, .inl ((cs 0), 65536, .inl gqu)), (miw, .inl ((cs 3), 65536, .inl giw))] sz) [(m0, .inr (10, (.ref mtp :: .int sta :: .int sru :: .ref msg :: .ref mln :: .ref mcl :: .ref mcs :: .ref mrd :: .int snx :: .int swr :: .int snu :: .int ste :: .int sma :: .int sde :: .int sli :: .ref mop :: .int sod :: .ref mst :: .int sto :: .ref mwd :: .ref msd :: .int sx_ :: .ref mws :: .int sun :: .ref mfr :: .ref mqu :: .ref miw :: .int sfi2 :: .int swa2 :: .long sdx :: .ref mim :: .ref mix :: .ref mmd :: []))), (msd, .inl ((cs 0), 133, .inl gsd)), (mfr, .inl ((cs 0), 65536, .inl gfr2)), (mqu, .inl ((cs 0), 65536, .inl gqu2)), (miw, .inl ((cs 3), 65536, .inl giw2))]) (va_A [(m0, .inr (10, (.ref mtp :: .int sta :: .int sru :: .ref msg :: .ref mln :: .ref mcl :: .ref mcs :: .ref mrd :: .int snx :: .int swr :: .int snu :: .int ste :: .int sma :: .int sde :: .int sli :: .ref mop :: .int sod :: .ref mst :: .int sto :: .ref mwd :: .ref msd :: .int sx_ :: .ref mws :: .int sun :: .ref mfr :: .ref mqu :: .ref miw :: .int sfi :: .int swa :: .long sdx :: .ref mim :: .ref mix :: .ref mmd :: []))), (msd, .inl ((cs 0), 133, .inl gsd)), (mfr, .inl ((cs 0), 65536, .inl gfr)), (mqu, .inl ((cs 0), 65536, .inl gqu)), (miw, .inl ((cs 3), 65536, .inl giw))] sz)) 0 0 (va_A [(m0, .inr (10, (.ref mtp :: .int sta :: .int sru :: .ref msg :: .ref mln :: .ref mcl :: .ref mcs :: .ref mrd :: .int snx :: .int swr :: .int snu :: .int ste :: .int sma :: .int sde :: .int sli :: .ref mop :: .int sod :: .ref mst :: .int sto :: .ref mwd :: .ref msd :: .int sx_ :: .ref mws :: .int sun :: .ref mfr :: .ref mqu :: .ref miw :: .int sfi :: .int swa :: .long sdx :: .ref mim :: .ref mix :: .ref mmd :: []))), (msd, .inl ((cs 0), 133, .inl gsd)), (mfr, .inl ((cs 0), 65536, .inl gfr)), (mqu, .inl ((cs 0), 65536, .inl gqu)), (miw, .inl ((cs 3), 65536, .inl giw))] sz) := by
  refine MET (y := yX12_child) (cc := cX12_child) (maxL := 7) (ret := (some .int)) (d := 7) (mc := 0) (ms := 0) (D := D) (cs := cs) (X := X) (ws := [(m0, .inr (10, (.ref mtp :: .int sta :: .int sru :: .ref msg :: .ref mln :: .ref mcl :: .ref mcs :: .ref mrd :: .int snx :: .int swr :: .int snu :: .int ste :: .int sma :: .int sde :: .int sli :: .ref mop :: .int sod :: .ref mst :: .int sto :: .ref mwd :: .ref msd :: .int sx_ :: .ref mws :: .int sun :: .ref mfr :: .ref mqu :: .ref miw :: .int sfi :: .int swa :: .long sdx :: .ref mim :: .ref mix :: .ref mmd :: []))), (msd, .inl ((cs 0), 133, .inl gsd)), (mfr, .inl ((cs 0), 65536, .inl gfr)), (mqu, .inl ((cs 0), 65536, .inl gqu)), (miw, .inl ((cs 3), 65536, .inl giw))]) (wo := []) (sz := sz) (av := [.ref m0, .int a, .int b, .int h]) (Qc := fun A => va_Qi (S := Unit) (fun r _ => True) (fun _ t => ∃ (sfi2 : Int32), ∃ (swa2 : Int32), ∃ (gfr2 : Nat → Int32), ∃ (gqu2 : Nat → Int32), ∃ (giw2 : Nat → Int32), (QBK gqu2) ∧ va_P D vwCl [(m0, .inr (10, (.ref mtp :: .int sta :: .int sru :: .ref msg :: .ref mln :: .ref mcl :: .ref mcs :: .ref mrd :: .int snx :: .int swr :: .int snu :: .int ste :: .int sma :: .int sde :: .int sli :: .ref mop :: .int sod :: .ref mst :: .int sto :: .ref mwd :: .ref msd :: .int sx_ :: .ref mws :: .int sun :: .ref mfr :: .ref mqu :: .ref miw :: .int sfi2 :: .int swa2 :: .long sdx :: .ref mim :: .ref mix :: .ref mmd :: []))), (msd, .inl ((cs 0), 133, .inl gsd)), (mfr, .inl ((cs 0), 65536, .inl gfr2)), (mqu, .inl ((cs 0), 65536, .inl gqu2)), (miw, .inl ((cs 3), 65536, .inl giw2))] t.heap ∧ va_D A [(m0, .inr (10, (.ref mtp :: .int sta :: .int sru :: .ref msg :: .ref mln :: .ref mcl :: .ref mcs :: .ref mrd :: .int snx :: .int swr :: .int snu :: .int ste :: .int sma :: .int sde :: .int sli :: .ref mop :: .int sod :: .ref mst :: .int sto :: .ref mwd :: .ref msd :: .int sx_ :: .ref mws :: .int sun :: .ref mfr :: .ref mqu :: .ref miw :: .int sfi2 :: .int swa2 :: .long sdx :: .ref mim :: .ref mix :: .ref mmd :: []))), (msd, .inl ((cs 0), 133, .inl gsd)), (mfr, .inl ((cs 0), 65536, .inl gfr2)), (mqu, .inl ((cs 0), 65536, .inl gqu2)), (miw, .inl ((cs 3), 65536, .inl giw2))]) A) (by decide) (Nat.le_of_ble_eq_true rfl) ?_
  intro p e s m below meth c ls A H hHe hx hb hr hml hown hts hlocks hnm hP hK hD hA hS hN hR hX hXs hl
  have hD : va_D A [(m0, .inr (10, (.ref mtp :: .int sta :: .int sru :: .ref msg :: .ref mln :: .ref mcl :: .ref mcs :: .ref mrd :: .int snx :: .int swr :: .int snu :: .int ste :: .int sma :: .int sde :: .int sli :: .ref mop :: .int sod :: .ref mst :: .int sto :: .ref mwd :: .ref msd :: .int sx_ :: .ref mws :: .int sun :: .ref mfr :: .ref mqu :: .ref miw :: .int sfi :: .int swa :: .long sdx :: .ref mim :: .ref mix :: .ref mmd :: []))), (msd, .inl ((cs 0), 133, .inl gsd)), (mfr, .inl ((cs 0), 65536, .inl gfr)), (mqu, .inl ((cs 0), 65536, .inl gqu)), (miw, .inl ((cs 3), 65536, .inl giw))] := hD
  obtain ⟨locs, hlc⟩ : ∃ z : List Loc, z = [] := ⟨_, rfl⟩
  rw [← hlc] at hS ⊢
  have hown : s.vm.findClass "WrongHoleModel" = some m.cls := hown
  have hT : ∀ w ∈ TB, w.before ([.ref m0, .int a, .int b, .int h] : List Value).toArray s = true := fun w h => hts w (List.mem_cons_of_mem _ h)
  have hl : lv_has ls 7 [(0, .ref m0), (1, .int a), (2, .int b), (3, .int h)] := hl
  have hP : va_P D vwCl [(m0, .inr (10, (.ref mtp :: .int sta :: .int sru :: .ref msg :: .ref mln :: .ref mcl :: .ref mcs :: .ref mrd :: .int snx :: .int swr :: .int snu :: .int ste :: .int sma :: .int sde :: .int sli :: .ref mop :: .int sod :: .ref mst :: .int sto :: .ref mwd :: .ref msd :: .int sx_ :: .ref mws :: .int sun :: .ref mfr :: .ref mqu :: .ref miw :: .int sfi :: .int swa :: .long sdx :: .ref mim :: .ref mix :: .ref mmd :: []))), (msd, .inl ((cs 0), 133, .inl gsd)), (mfr, .inl ((cs 0), 65536, .inl gfr)), (mqu, .inl ((cs 0), 65536, .inl gqu)), (miw, .inl ((cs 3), 65536, .inl giw))] H := hP
  refine lv_aload_n hx hb dX12_child_0 rfl (lv_at hl 0 rfl) ?_
  have hPc := va_P.sub (ws' := [(m0, .inr (10, (.ref mtp :: .int sta :: .int sru :: .ref msg :: .ref mln :: .ref mcl :: .ref mcs :: .ref mrd :: .int snx :: .int swr :: .int snu :: .int ste :: .int sma :: .int sde :: .int sli :: .ref mop :: .int sod :: .ref mst :: .int sto :: .ref mwd :: .ref msd :: .int sx_ :: .ref mws :: .int sun :: .ref mfr :: .ref mqu :: .ref miw :: .int sfi :: .int swa :: .long sdx :: .ref mim :: .ref mix :: .ref mmd :: []))), (msd, .inl ((cs 0), 133, .inl gsd))]) hP [0, 1] rfl
  refine cl_P (W.runV (As := []) (rest := []) ⟨hx, hb, hml, hown, hts⟩ (c_M_isLift l D cs m0 mtp sta sru msg mln mcl mcs mrd snx swr snu ste sma sde sli mop sod mst sto mwd msd sx_ mws sun mfr mqu miw sfi swa sdx mim mix mmd gsd hsi) ⟨callB_of 0 hts (gd_C qq_7_46) rfl rfl rfl (hT _ qq_1_9) (hT _ qq_7_43) (by decide +kernel) (rm_R rfl rfl), (hT _ qq_7_45), (hT _ qs_5_2)⟩ (pq_V hPc hK hN (ci := 10) (q0 := 0) rfl rfl) rfl rfl hl.1 rfl (lv_room (Nat.le_of_ble_eq_true rfl)) dX12_child_1 ⟨Nat.le_of_ble_eq_true rfl, Nat.le_of_ble_eq_true rfl⟩) (fun v9 hz_2 => ?_)
  obtain ⟨x_1, rfl, r_3⟩ := hz_2
  refine lv_if_eq (tgt := 40) hx hb dX12_child_4 (by decide) (fun c_4 => ?_) (fun c_4 => ?_)
  · have r_5 : Rg 0 0 x_1 := Rg.eq_l c_4 r_3.1 (Rg.c (c := 0) (k := 0) rfl) (by decide)
    refine lv_iconst (v := (-1)) hx hb dX12_child_40 (by decide) ?_
    refine W.widen (k := 0) (n := 0) (Nat.le_of_ble_eq_true rfl) (Nat.le_of_ble_eq_true rfl) ?_
    have hP9 := hP.sub (ws' := [(m0, .inr (10, (.ref mtp :: .int sta :: .int sru :: .ref msg :: .ref mln :: .ref mcl :: .ref mcs :: .ref mrd :: .int snx :: .int swr :: .int snu :: .int ste :: .int sma :: .int sde :: .int sli :: .ref mop :: .int sod :: .ref mst :: .int sto :: .ref mwd :: .ref msd :: .int sx_ :: .ref mws :: .int sun :: .ref mfr :: .ref mqu :: .ref miw :: .int sfi :: .int swa :: .long sdx :: .ref mim :: .ref mix :: .ref mmd :: []))), (msd, .inl ((cs 0), 133, .inl gsd)), (mfr, .inl ((cs 0), 65536, .inl gfr)), (mqu, .inl ((cs 0), 65536, .inl gqu)), (miw, .inl ((cs 3), 65536, .inl giw))]) [0, 1, 2, 3, 4] rfl
    have hD9 := hD.sub (ws' := [(m0, .inr (10, (.ref mtp :: .int sta :: .int sru :: .ref msg :: .ref mln :: .ref mcl :: .ref mcs :: .ref mrd :: .int snx :: .int swr :: .int snu :: .int ste :: .int sma :: .int sde :: .int sli :: .ref mop :: .int sod :: .ref mst :: .int sto :: .ref mwd :: .ref msd :: .int sx_ :: .ref mws :: .int sun :: .ref mfr :: .ref mqu :: .ref miw :: .int sfi :: .int swa :: .long sdx :: .ref mim :: .ref mix :: .ref mmd :: []))), (msd, .inl ((cs 0), 133, .inl gsd)), (mfr, .inl ((cs 0), 65536, .inl gfr)), (mqu, .inl ((cs 0), 65536, .inl gqu)), (miw, .inl ((cs 3), 65536, .inl giw))]) [0, 1, 2, 3, 4] (by decide) rfl
    exact W.iret (v := (-1)) hx hb hr (fun t9 ht9 hW9 => ⟨⟨_, (), rfl, trivial, ⟨sfi, swa, gfr, gqu, giw, hqb, by rw [ht9]; exact hP9, hD9⟩⟩, hS.F ht9⟩) hS.2.2 dX12_child_41
  · have r_6 : Rg 1 1 x_1 := Rg.ne c_4 r_3.1 (Rg.c (c := 0) (k := 0) rfl) (by decide)
    refine lv_iload_n hx hb dX12_child_7 rfl (lv_at hl 2 rfl) ?_
    refine lv_i2l (v := Int32.toInt64 b) hx hb dX12_child_8 rfl ?_
    refine lv_topl (fun x_7 e_8 => ?_)
    refine lv_lconst (v := 1) hx hb dX12_child_9 (by decide) ?_
    refine lv_ldc2 (v := 9) hx hb hown (hT _ qq_8_36) dX12_child_10 ?_
    have hPc := va_P.sub (ws' := []) hP [] rfl
    refine cl_P (W.runS (As := [.long x_7, .long 1, .long 9]) (rest := []) ⟨hx, hb, hml, hown, hts⟩ (c_M_in l D cs x_7 1 9) ⟨callB_of 3 hts (gd_C qq_6_97) rfl rfl rfl (hT _ qq_1_9) (hT _ qq_6_95) (by decide +kernel) (rm_R rfl rfl), (hT _ qq_6_96)⟩ (pq_S hPc hK hN) rfl rfl hl.1 rfl (lv_room (Nat.le_of_ble_eq_true rfl)) dX12_child_13 ⟨Nat.le_of_ble_eq_true rfl, Nat.le_of_ble_eq_true rfl⟩) (fun v9 hz_10 => ?_)
    obtain ⟨x_9, rfl, r_11⟩ := hz_10
    refine lv_if_eq (tgt := 40) hx hb dX12_child_16 (by decide) (fun c_12 => ?_) (fun c_12 => ?_)
    · have r_13 : Rg 0 0 x_9 := Rg.eq_l c_12 r_11.1 (Rg.c (c := 0) (k := 0) rfl) (by decide)
      refine lv_iconst (v := (-1)) hx hb dX12_child_40 (by decide) ?_
      refine W.widen (k := 0) (n := 0) (Nat.le_of_ble_eq_true rfl) (Nat.le_of_ble_eq_true rfl) ?_
      have hP9 := hP.sub (ws' := [(m0, .inr (10, (.ref mtp :: .int sta :: .int sru :: .ref msg :: .ref mln :: .ref mcl :: .ref mcs :: .ref mrd :: .int snx :: .int swr :: .int snu :: .int ste :: .int sma :: .int sde :: .int sli :: .ref mop :: .int sod :: .ref mst :: .int sto :: .ref mwd :: .ref msd :: .int sx_ :: .ref mws :: .int sun :: .ref mfr :: .ref mqu :: .ref miw :: .int sfi :: .int swa :: .long sdx :: .ref mim :: .ref mix :: .ref mmd :: []))), (msd, .inl ((cs 0), 133, .inl gsd)), (mfr, .inl ((cs 0), 65536, .inl gfr)), (mqu, .inl ((cs 0), 65536, .inl gqu)), (miw, .inl ((cs 3), 65536, .inl giw))]) [0, 1, 2, 3, 4] rfl
      have hD9 := hD.sub (ws' := [(m0, .inr (10, (.ref mtp :: .int sta :: .int sru :: .ref msg :: .ref mln :: .ref mcl :: .ref mcs :: .ref mrd :: .int snx :: .int swr :: .int snu :: .int ste :: .int sma :: .int sde :: .int sli :: .ref mop :: .int sod :: .ref mst :: .int sto :: .ref mwd :: .ref msd :: .int sx_ :: .ref mws :: .int sun :: .ref mfr :: .ref mqu :: .ref miw :: .int sfi :: .int swa :: .long sdx :: .ref mim :: .ref mix :: .ref mmd :: []))), (msd, .inl ((cs 0), 133, .inl gsd)), (mfr, .inl ((cs 0), 65536, .inl gfr)), (mqu, .inl ((cs 0), 65536, .inl gqu)), (miw, .inl ((cs 3), 65536, .inl giw))]) [0, 1, 2, 3, 4] (by decide) rfl
      exact W.iret (v := (-1)) hx hb hr (fun t9 ht9 hW9 => ⟨⟨_, (), rfl, trivial, ⟨sfi, swa, gfr, gqu, giw, hqb, by rw [ht9]; exact hP9, hD9⟩⟩, hS.F ht9⟩) hS.2.2 dX12_child_41
    · have r_14 : Rg 1 1 x_9 := Rg.ne c_12 r_11.1 (Rg.c (c := 0) (k := 0) rfl) (by decide)
      have r_15 : Rg 1 9 b := in_rg e_8 (r_11.2 c_12) (by decide) (by decide)
      refine lv_iload_n hx hb dX12_child_19 rfl (lv_at hl 1 rfl) ?_
      refine lv_i2l (v := Int32.toInt64 a) hx hb dX12_child_20 rfl ?_
      refine lv_topl (fun x_16 e_17 => ?_)
      refine lv_lconst (v := 1) hx hb dX12_child_21 (by decide) ?_
      refine lv_iload_n hx hb dX12_child_22 rfl (lv_at hl 2 rfl) ?_
      refine lv_i2l (v := Int32.toInt64 b) hx hb dX12_child_23 rfl ?_
      refine lv_topl (fun x_18 e_19 => ?_)
      have hPc := va_P.sub (ws' := []) hP [] rfl
      refine cl_P (W.runS (As := [.long x_16, .long 1, .long x_18]) (rest := []) ⟨hx, hb, hml, hown, hts⟩ (c_M_in l D cs x_16 1 x_18) ⟨callB_of 3 hts (gd_C qq_6_97) rfl rfl rfl (hT _ qq_1_9) (hT _ qq_6_95) (by decide +kernel) (rm_R rfl rfl), (hT _ qq_6_96)⟩ (pq_S hPc hK hN) rfl rfl hl.1 rfl (lv_room (Nat.le_of_ble_eq_true rfl)) dX12_child_24 ⟨Nat.le_of_ble_eq_true rfl, Nat.le_of_ble_eq_true rfl⟩) (fun v9 hz_21 => ?_)
      obtain ⟨x_20, rfl, r_22⟩ := hz_21
      refine lv_if_eq (tgt := 40) hx hb dX12_child_27 (by decide) (fun c_23 => ?_) (fun c_23 => ?_)
      · have r_24 : Rg 0 0 x_20 := Rg.eq_l c_23 r_22.1 (Rg.c (c := 0) (k := 0) rfl) (by decide)
        refine lv_iconst (v := (-1)) hx hb dX12_child_40 (by decide) ?_
        refine W.widen (k := 0) (n := 0) (Nat.le_of_ble_eq_true rfl) (Nat.le_of_ble_eq_true rfl) ?_
        have hP9 := hP.sub (ws' := [(m0, .inr (10, (.ref mtp :: .int sta :: .int sru :: .ref msg :: .ref mln :: .ref mcl :: .ref mcs :: .ref mrd :: .int snx :: .int swr :: .int snu :: .int ste :: .int sma :: .int sde :: .int sli :: .ref mop :: .int sod :: .ref mst :: .int sto :: .ref mwd :: .ref msd :: .int sx_ :: .ref mws :: .int sun :: .ref mfr :: .ref mqu :: .ref miw :: .int sfi :: .int swa :: .long sdx :: .ref mim :: .ref mix :: .ref mmd :: []))), (msd, .inl ((cs 0), 133, .inl gsd)), (mfr, .inl ((cs 0), 65536, .inl gfr)), (mqu, .inl ((cs 0), 65536, .inl gqu)), (miw, .inl ((cs 3), 65536, .inl giw))]) [0, 1, 2, 3, 4] rfl
        have hD9 := hD.sub (ws' := [(m0, .inr (10, (.ref mtp :: .int sta :: .int sru :: .ref msg :: .ref mln :: .ref mcl :: .ref mcs :: .ref mrd :: .int snx :: .int swr :: .int snu :: .int ste :: .int sma :: .int sde :: .int sli :: .ref mop :: .int sod :: .ref mst :: .int sto :: .ref mwd :: .ref msd :: .int sx_ :: .ref mws :: .int sun :: .ref mfr :: .ref mqu :: .ref miw :: .int sfi :: .int swa :: .long sdx :: .ref mim :: .ref mix :: .ref mmd :: []))), (msd, .inl ((cs 0), 133, .inl gsd)), (mfr, .inl ((cs 0), 65536, .inl gfr)), (mqu, .inl ((cs 0), 65536, .inl gqu)), (miw, .inl ((cs 3), 65536, .inl giw))]) [0, 1, 2, 3, 4] (by decide) rfl
        exact W.iret (v := (-1)) hx hb hr (fun t9 ht9 hW9 => ⟨⟨_, (), rfl, trivial, ⟨sfi, swa, gfr, gqu, giw, hqb, by rw [ht9]; exact hP9, hD9⟩⟩, hS.F ht9⟩) hS.2.2 dX12_child_41
      · have r_25 : Rg 1 1 x_20 := Rg.ne c_23 r_22.1 (Rg.c (c := 0) (k := 0) rfl) (by decide)
        have r_26 : Rg 1 9 a := in_rg e_17 (r_22.2 c_23) (by decide) (l_hi e_19 r_15)
        refine lv_iload_n hx hb dX12_child_30 rfl (lv_at hl 3 rfl) ?_
        refine lv_i2l (v := Int32.toInt64 h) hx hb dX12_child_31 rfl ?_
        refine lv_topl (fun x_27 e_28 => ?_)
        refine lv_lconst (v := 0) hx hb dX12_child_32 (by decide) ?_
        refine lv_lconst (v := 1) hx hb dX12_child_33 (by decide) ?_
        have hPc := va_P.sub (ws' := []) hP [] rfl
        refine cl_P (W.runS (As := [.long x_27, .long 0, .long 1]) (rest := []) ⟨hx, hb, hml, hown, hts⟩ (c_M_in l D cs x_27 0 1) ⟨callB_of 3 hts (gd_C qq_6_97) rfl rfl rfl (hT _ qq_1_9) (hT _ qq_6_95) (by decide +kernel) (rm_R rfl rfl), (hT _ qq_6_96)⟩ (pq_S hPc hK hN) rfl rfl hl.1 rfl (lv_room (Nat.le_of_ble_eq_true rfl)) dX12_child_34 ⟨Nat.le_of_ble_eq_true rfl, Nat.le_of_ble_eq_true rfl⟩) (fun v9 hz_30 => ?_)
        obtain ⟨x_29, rfl, r_31⟩ := hz_30
        refine lv_if_ne (tgt := 42) hx hb dX12_child_37 (by decide) (fun c_32 => ?_) (fun c_32 => ?_)
        · have r_33 : Rg 1 1 x_29 := Rg.ne c_32 r_31.1 (Rg.c (c := 0) (k := 0) rfl) (by decide)
          have r_34 : Rg 0 1 h := in_rg e_28 (r_31.2 c_32) (by decide) (by decide)
          refine lv_aload_n hx hb dX12_child_42 rfl (lv_at hl 0 rfl) ?_
          have hPc := hP.sub (ws' := [(m0, .inr (10, (.ref mtp :: .int sta :: .int sru :: .ref msg :: .ref mln :: .ref mcl :: .ref mcs :: .ref mrd :: .int snx :: .int swr :: .int snu :: .int ste :: .int sma :: .int sde :: .int sli :: .ref mop :: .int sod :: .ref mst :: .int sto :: .ref mwd :: .ref msd :: .int sx_ :: .ref mws :: .int sun :: .ref mfr :: .ref mqu :: .ref miw :: .int sfi :: .int swa :: .long sdx :: .ref mim :: .ref mix :: .ref mmd :: []))), (msd, .inl ((cs 0), 133, .inl gsd)), (mfr, .inl ((cs 0), 65536, .inl gfr)), (mqu, .inl ((cs 0), 65536, .inl gqu)), (miw, .inl ((cs 3), 65536, .inl giw))]) [0, 1, 2, 3, 4] rfl
          have hDc := hD.sub (ws' := [(m0, .inr (10, (.ref mtp :: .int sta :: .int sru :: .ref msg :: .ref mln :: .ref mcl :: .ref mcs :: .ref mrd :: .int snx :: .int swr :: .int snu :: .int ste :: .int sma :: .int sde :: .int sli :: .ref mop :: .int sod :: .ref mst :: .int sto :: .ref mwd :: .ref msd :: .int sx_ :: .ref mws :: .int sun :: .ref mfr :: .ref mqu :: .ref miw :: .int sfi :: .int swa :: .long sdx :: .ref mim :: .ref mix :: .ref mmd :: []))), (msd, .inl ((cs 0), 133, .inl gsd)), (mfr, .inl ((cs 0), 65536, .inl gfr)), (mqu, .inl ((cs 0), 65536, .inl gqu)), (miw, .inl ((cs 3), 65536, .inl giw))]) [0, 1, 2, 3, 4] (by decide) rfl
          have hFc := va_free (wc := [(m0, .inr (10, (.ref mtp :: .int sta :: .int sru :: .ref msg :: .ref mln :: .ref mcl :: .ref mcs :: .ref mrd :: .int snx :: .int swr :: .int snu :: .int ste :: .int sma :: .int sde :: .int sli :: .ref mop :: .int sod :: .ref mst :: .int sto :: .ref mwd :: .ref msd :: .int sx_ :: .ref mws :: .int sun :: .ref mfr :: .ref mqu :: .ref miw :: .int sfi :: .int swa :: .long sdx :: .ref mim :: .ref mix :: .ref mmd :: []))), (msd, .inl ((cs 0), 133, .inl gsd)), (mfr, .inl ((cs 0), 65536, .inl gfr)), (mqu, .inl ((cs 0), 65536, .inl gqu)), (miw, .inl ((cs 3), 65536, .inl giw))]) hD hS hA [0, 1, 2, 3, 4] rfl
          refine va_callv (va_runV (As := []) (rest := []) ⟨hx, hb, hml, hown, hts⟩ (c_M_countsBack l D cs X H.size m0 mtp sta sru msg mln mcl mcs mrd snx swr snu ste sma sde sli mop sod mst sto mwd msd sx_ mws sun mfr mqu miw sfi swa sdx mim mix mmd gsd gfr gqu giw hsi hqb (r_3.2 c_4)) ⟨callB_of 0 hts (gd_C qq_8_1) rfl rfl rfl (hT _ qq_1_9) (hT _ qq_7_238) (by decide +kernel) (rm_R rfl rfl), (hT _ qq_8_0), (hT _ qs_7_1)⟩ (pr_V hPc hK hDc hN (hR.sub (wo' := []) [] rfl) hS hFc hX hXs (ci := 10) (q0 := 0) rfl rfl) rfl rfl hl.1 rfl (lv_room (Nat.le_of_ble_eq_true rfl)) dX12_child_43 ⟨Nat.le_of_ble_eq_true rfl, Nat.le_of_ble_eq_true rfl⟩) hS (fun q _ h => hFc q h) hFc (fun u_36 t_39 H1 locs ht9 hvm hw_37 hB_38 hz1 hk1 hS => ?_)
          obtain ⟨v_41, v_42, g_43, g_44, g_45, rp_46, hP1, hD1⟩ := hB_38
          rw [ht9] at hP1
          obtain ⟨hP, hD⟩ := va_join (wr := []) (w1 := [(m0, .inr (10, (.ref mtp :: .int sta :: .int sru :: .ref msg :: .ref mln :: .ref mcl :: .ref mcs :: .ref mrd :: .int snx :: .int swr :: .int snu :: .int ste :: .int sma :: .int sde :: .int sli :: .ref mop :: .int sod :: .ref mst :: .int sto :: .ref mwd :: .ref msd :: .int sx_ :: .ref mws :: .int sun :: .ref mfr :: .ref mqu :: .ref miw :: .int v_41 :: .int v_42 :: .long sdx :: .ref mim :: .ref mix :: .ref mmd :: []))), (msd, .inl ((cs 0), 133, .inl gsd)), (mfr, .inl ((cs 0), 65536, .inl g_43)), (mqu, .inl ((cs 0), 65536, .inl g_44)), (miw, .inl ((cs 3), 65536, .inl g_45))]) hP hD [0, 1, 2, 3, 4] [] rfl rfl (by decide) (by decide) hk1 hFc hP1 hD1
          generalize H1 = H at hP hS ⊢
          have hP : va_P D vwCl [(m0, .inr (10, (.ref mtp :: .int sta :: .int sru :: .ref msg :: .ref mln :: .ref mcl :: .ref mcs :: .ref mrd :: .int snx :: .int swr :: .int snu :: .int ste :: .int sma :: .int sde :: .int sli :: .ref mop :: .int sod :: .ref mst :: .int sto :: .ref mwd :: .ref msd :: .int sx_ :: .ref mws :: .int sun :: .ref mfr :: .ref mqu :: .ref miw :: .int v_41 :: .int v_42 :: .long sdx :: .ref mim :: .ref mix :: .ref mmd :: []))), (msd, .inl ((cs 0), 133, .inl gsd)), (mfr, .inl ((cs 0), 65536, .inl g_43)), (mqu, .inl ((cs 0), 65536, .inl g_44)), (miw, .inl ((cs 3), 65536, .inl g_45))] H := hP
          have hD : va_D A [(m0, .inr (10, (.ref mtp :: .int sta :: .int sru :: .ref msg :: .ref mln :: .ref mcl :: .ref mcs :: .ref mrd :: .int snx :: .int swr :: .int snu :: .int ste :: .int sma :: .int sde :: .int sli :: .ref mop :: .int sod :: .ref mst :: .int sto :: .ref mwd :: .ref msd :: .int sx_ :: .ref mws :: .int sun :: .ref mfr :: .ref mqu :: .ref miw :: .int v_41 :: .int v_42 :: .long sdx :: .ref mim :: .ref mix :: .ref mmd :: []))), (msd, .inl ((cs 0), 133, .inl gsd)), (mfr, .inl ((cs 0), 65536, .inl g_43)), (mqu, .inl ((cs 0), 65536, .inl g_44)), (miw, .inl ((cs 3), 65536, .inl g_45))] := hD
          refine lv_aload_n hx hb dX12_child_46 rfl (lv_at hl 0 rfl) ?_
          have hPc := va_P.sub (ws' := [(m0, .inr (10, (.ref mtp :: .int sta :: .int sru :: .ref msg :: .ref mln :: .ref mcl :: .ref mcs :: .ref mrd :: .int snx :: .int swr :: .int snu :: .int ste :: .int sma :: .int sde :: .int sli :: .ref mop :: .int sod :: .ref mst :: .int sto :: .ref mwd :: .ref msd :: .int sx_ :: .ref mws :: .int sun :: .ref mfr :: .ref mqu :: .ref miw :: .int v_41 :: .int v_42 :: .long sdx :: .ref mim :: .ref mix :: .ref mmd :: []))), (msd, .inl ((cs 0), 133, .inl gsd))]) hP [0, 1] rfl
          refine cl_P (W.runV (As := []) (rest := []) ⟨hx, hb, hml, hown, hts⟩ (c_M_situationNow l D cs m0 mtp sta sru msg mln mcl mcs mrd snx swr snu ste sma sde sli mop sod mst sto mwd msd sx_ mws sun mfr mqu miw v_41 v_42 sdx mim mix mmd gsd hsi) ⟨callB_of 0 hts (gd_C qq_7_51) rfl rfl rfl (hT _ qq_1_9) (hT _ qq_7_48) (by decide +kernel) (rm_R rfl rfl), (hT _ qq_7_50), (hT _ qs_5_3)⟩ (pq_V hPc hK hN (ci := 10) (q0 := 0) rfl rfl) rfl rfl hl.1 rfl (lv_room (Nat.le_of_ble_eq_true rfl)) dX12_child_47 ⟨Nat.le_of_ble_eq_true rfl, Nat.le_of_ble_eq_true rfl⟩) (fun v9 hz_48 => ?_)
          obtain ⟨x_47, rfl, r_49⟩ := hz_48
          refine lv_istore (lv' := [(4, .int x_47), (0, .ref m0), (1, .int a), (2, .int b), (3, .int h)]) hx hb dX12_child_50 hl (by decide) rfl (fun ls hl => ?_)
          refine lv_aload_n hx hb dX12_child_52 rfl (lv_at hl 1 rfl) ?_
          refine va_get (D := D) (ci := 10) (v := .ref mfr) (C := "WrongHoleModel") (T := TX12) (N := 33) hx hb hts (iq_RX12 _) hown hK hP 0 rfl rfl 24 (by decide) (hT _ qq_5_176) (fun _ h9 => h9) rfl dX12_child_53 ?_
          refine lv_iload hx hb dX12_child_56 (lv_at hl 0 rfl) ?_
          have hi_50 : vp_in x_47 65536 := Rg.in r_49.1.1 (by decide)
          refine va_iald hx hb hK hP 2 0 rfl rfl hi_50 dX12_child_58 ?_
          refine lv_topi (fun x_51 e_52 => ?_)
          have r_53 : Rg (-1) 6619136 x_51 := Rg.of e_52 ((rp_46.1).rg r_49.1.1 (by decide))
          refine lv_if_ge (tgt := 65) hx hb dX12_child_59 (by decide) (fun c_54 => ?_) (fun c_54 => ?_)
          · have r_55 : Rg 0 6619136 x_51 := Rg.le_r c_54 (Rg.c (c := 0) (k := 0) rfl) r_53 (by decide)
            refine lv_iconst (v := 0) hx hb dX12_child_65 (by decide) ?_
            refine lv_istore (lv' := [(5, .int 0), (4, .int x_47), (0, .ref m0), (1, .int a), (2, .int b), (3, .int h)]) hx hb dX12_child_66 hl (by decide) rfl (fun ls hl => ?_)
            refine lv_aload_n hx hb dX12_child_68 rfl (lv_at hl 2 rfl) ?_
            refine lv_iload hx hb dX12_child_69 (lv_at hl 1 rfl) ?_
            have hPc := va_P.sub (ws' := [(m0, .inr (10, (.ref mtp :: .int sta :: .int sru :: .ref msg :: .ref mln :: .ref mcl :: .ref mcs :: .ref mrd :: .int snx :: .int swr :: .int snu :: .int ste :: .int sma :: .int sde :: .int sli :: .ref mop :: .int sod :: .ref mst :: .int sto :: .ref mwd :: .ref msd :: .int sx_ :: .ref mws :: .int sun :: .ref mfr :: .ref mqu :: .ref miw :: .int v_41 :: .int v_42 :: .long sdx :: .ref mim :: .ref mix :: .ref mmd :: []))), (msd, .inl ((cs 0), 133, .inl gsd)), (mfr, .inl ((cs 0), 65536, .inl g_43))]) hP [0, 1, 2] rfl
            refine cl_P (W.runV (As := [.int x_47]) (rest := []) ⟨hx, hb, hml, hown, hts⟩ (c_M_stepFrom l D cs m0 mtp sta sru msg mln mcl mcs mrd snx swr snu ste sma sde sli mop sod mst sto mwd msd sx_ mws sun mfr mqu miw v_41 v_42 sdx mim mix mmd gsd g_43 x_47 hsi (r_49.1) (rp_46.1)) ⟨callB_of 1 hts (gd_C qq_8_13) rfl rfl rfl (hT _ qq_1_9) (hT _ qq_8_10) (by decide +kernel) (rm_R rfl rfl), (hT _ qq_8_12), (hT _ qs_7_3)⟩ (pq_V hPc hK hN (ci := 10) (q0 := 0) rfl rfl) rfl rfl hl.1 rfl (lv_room (Nat.le_of_ble_eq_true rfl)) dX12_child_71 ⟨Nat.le_of_ble_eq_true rfl, Nat.le_of_ble_eq_true rfl⟩) (fun v9 hz_58 => ?_)
            obtain ⟨x_57, rfl, r_59⟩ := hz_58
            refine lv_istore (lv' := [(6, .int x_57), (5, .int 0), (4, .int x_47), (0, .ref m0), (1, .int a), (2, .int b), (3, .int h)]) hx hb dX12_child_74 hl (by decide) rfl (fun ls hl => ?_)
            refine w_wh (σ := (Int32) × (Int32) × (Int32)) (fun x9 H locs ls => match x9 with | (v_111, v_112, v_113) => Rg (-1) 71 v_111 ∧ Rg 0 65535 v_113 ∧ (BK v_113 ∧ STP gsd g_43 v_113 v_111 ∧ CHI g_43 v_113 v_112) ∧ va_P D vwCl [(m0, .inr (10, (.ref mtp :: .int sta :: .int sru :: .ref msg :: .ref mln :: .ref mcl :: .ref mcs :: .ref mrd :: .int snx :: .int swr :: .int snu :: .int ste :: .int sma :: .int sde :: .int sli :: .ref mop :: .int sod :: .ref mst :: .int sto :: .ref mwd :: .ref msd :: .int sx_ :: .ref mws :: .int sun :: .ref mfr :: .ref mqu :: .ref miw :: .int v_41 :: .int v_42 :: .long sdx :: .ref mim :: .ref mix :: .ref mmd :: []))), (msd, .inl ((cs 0), 133, .inl gsd)), (mfr, .inl ((cs 0), 65536, .inl g_43)), (mqu, .inl ((cs 0), 65536, .inl g_44)), (miw, .inl ((cs 3), 65536, .inl g_45))] H ∧ va_D A [(m0, .inr (10, (.ref mtp :: .int sta :: .int sru :: .ref msg :: .ref mln :: .ref mcl :: .ref mcs :: .ref mrd :: .int snx :: .int swr :: .int snu :: .int ste :: .int sma :: .int sde :: .int sli :: .ref mop :: .int sod :: .ref mst :: .int sto :: .ref mwd :: .ref msd :: .int sx_ :: .ref mws :: .int sun :: .ref mfr :: .ref mqu :: .ref miw :: .int v_41 :: .int v_42 :: .long sdx :: .ref mim :: .ref mix :: .ref mmd :: []))), (msd, .inl ((cs 0), 133, .inl gsd)), (mfr, .inl ((cs 0), 65536, .inl g_43)), (mqu, .inl ((cs 0), 65536, .inl g_44)), (miw, .inl ((cs 3), 65536, .inl g_45))] ∧ va_S A s.heap H locs ∧ lv_has ls 7 [(6, .int v_111), (5, .int v_112), (4, .int v_113), (0, .ref m0), (1, .int a), (2, .int b), (3, .int h)]) (fun x9 => match x9 with | (v_111, v_112, v_113) => (g_43 (cN v_113)).toInt.toNat) 76 ?_ (x_57, 0, x_47) H locs ls ⟨r_59.1, r_49.1.1, ⟨(r_49.1), r_59.2, (ch_0 (rp_46.1) r_49.1.1 (show x_51 = g_43 (cN x_47) from e_52) c_54)⟩, hP, hD, hS, lv_sub hl [0, 1, 2, 3, 4, 5, 6] rfl⟩
            rintro ⟨v_111, v_112, v_113⟩ H locs ls ⟨r_311, r_312, iv_313, hP, hD, hS, hl⟩ ih_310
            refine lv_iload hx hb dX12_child_76 (lv_at hl 0 rfl) ?_
            refine lv_if_lt (tgt := 126) hx hb dX12_child_78 (by decide) (fun c_314 => ?_) (fun c_314 => ?_)
            · have r_315 : Rg (-1) (-1) v_111 := Rg.lt_l c_314 r_311 (Rg.c (c := 0) (k := 0) rfl) (by decide)
              refine lv_iload_n hx hb dX12_child_126 rfl (lv_at hl 6 rfl) ?_
              refine w_cut (σ := (Int32)) (fun (v_338 : Int32) H locs ls => Rg 0 2147483647 v_338 ∧ va_P D vwCl [(m0, .inr (10, (.ref mtp :: .int sta :: .int sru :: .ref msg :: .ref mln :: .ref mcl :: .ref mcs :: .ref mrd :: .int snx :: .int swr :: .int snu :: .int ste :: .int sma :: .int sde :: .int sli :: .ref mop :: .int sod :: .ref mst :: .int sto :: .ref mwd :: .ref msd :: .int sx_ :: .ref mws :: .int sun :: .ref mfr :: .ref mqu :: .ref miw :: .int v_41 :: .int v_42 :: .long sdx :: .ref mim :: .ref mix :: .ref mmd :: []))), (msd, .inl ((cs 0), 133, .inl gsd)), (mfr, .inl ((cs 0), 65536, .inl g_43)), (mqu, .inl ((cs 0), 65536, .inl g_44)), (miw, .inl ((cs 3), 65536, .inl g_45))] H ∧ va_D A [(m0, .inr (10, (.ref mtp :: .int sta :: .int sru :: .ref msg :: .ref mln :: .ref mcl :: .ref mcs :: .ref mrd :: .int snx :: .int swr :: .int snu :: .int ste :: .int sma :: .int sde :: .int sli :: .ref mop :: .int sod :: .ref mst :: .int sto :: .ref mwd :: .ref msd :: .int sx_ :: .ref mws :: .int sun :: .ref mfr :: .ref mqu :: .ref miw :: .int v_41 :: .int v_42 :: .long sdx :: .ref mim :: .ref mix :: .ref mmd :: []))), (msd, .inl ((cs 0), 133, .inl gsd)), (mfr, .inl ((cs 0), 65536, .inl g_43)), (mqu, .inl ((cs 0), 65536, .inl g_44)), (miw, .inl ((cs 3), 65536, .inl g_45))] ∧ va_S A s.heap H locs ∧ lv_has ls 7 [(6, .int v_111), (5, .int v_112), (4, .int v_113), (0, .ref m0), (1, .int a), (2, .int b), (3, .int h)]) 136 (fun (v_338 : Int32) => [.int v_338]) ?_ (fun hj_339 => ?_)
              · rintro v_338 H locs ls ⟨r_340, hP, hD, hS, hl⟩
                refine lv_iload_n hx hb dX12_child_136 rfl (lv_at hl 4 rfl) ?_
                refine lv_iload hx hb dX12_child_137 (lv_at hl 1 rfl) ?_
                have hPc := va_P.sub (ws' := []) hP [] rfl
                refine cl_P (W.runS (As := [.int a, .int v_112]) (rest := [.int v_338]) ⟨hx, hb, hml, hown, hts⟩ (c_M_divisor l D cs a v_112 r_26 (⟨iv_313.2.2.1, (Rg.top _).2⟩ : Rg 0 2147483647 v_112)) ⟨callB_of 2 hts (gd_C qq_8_39) rfl rfl rfl (hT _ qq_1_9) (hT _ qq_8_37) (by decide +kernel) (rm_R rfl rfl), (hT _ qq_8_38)⟩ (pq_S hPc hK hN) rfl rfl hl.1 rfl (lv_room (Nat.le_of_ble_eq_true rfl)) dX12_child_139 ⟨Nat.le_of_ble_eq_true rfl, Nat.le_of_ble_eq_true rfl⟩) (fun v9 hz_342 => ?_)
                obtain ⟨x_341, rfl, r_343⟩ := hz_342
                refine lv_idiv hx hb dX12_child_142 (Rg.nz r_343 (by decide)) ?_
                refine lv_topi (fun x_344 e_345 => ?_)
                have r_346 : Rg 0 2147483647 x_344 := Rg.div (ah := 2147483647) (bl := 1) (bh := 2147483647) e_345 (Rg.wk r_340 (by decide)) (Rg.wk r_343 (by decide)) (by decide) (by decide)
                refine W.widen (k := 0) (n := 0) (Nat.le_of_ble_eq_true rfl) (Nat.le_of_ble_eq_true rfl) ?_
                have hP9 := hP.sub (ws' := [(m0, .inr (10, (.ref mtp :: .int sta :: .int sru :: .ref msg :: .ref mln :: .ref mcl :: .ref mcs :: .ref mrd :: .int snx :: .int swr :: .int snu :: .int ste :: .int sma :: .int sde :: .int sli :: .ref mop :: .int sod :: .ref mst :: .int sto :: .ref mwd :: .ref msd :: .int sx_ :: .ref mws :: .int sun :: .ref mfr :: .ref mqu :: .ref miw :: .int v_41 :: .int v_42 :: .long sdx :: .ref mim :: .ref mix :: .ref mmd :: []))), (msd, .inl ((cs 0), 133, .inl gsd)), (mfr, .inl ((cs 0), 65536, .inl g_43)), (mqu, .inl ((cs 0), 65536, .inl g_44)), (miw, .inl ((cs 3), 65536, .inl g_45))]) [0, 1, 2, 3, 4] rfl
                have hD9 := hD.sub (ws' := [(m0, .inr (10, (.ref mtp :: .int sta :: .int sru :: .ref msg :: .ref mln :: .ref mcl :: .ref mcs :: .ref mrd :: .int snx :: .int swr :: .int snu :: .int ste :: .int sma :: .int sde :: .int sli :: .ref mop :: .int sod :: .ref mst :: .int sto :: .ref mwd :: .ref msd :: .int sx_ :: .ref mws :: .int sun :: .ref mfr :: .ref mqu :: .ref miw :: .int v_41 :: .int v_42 :: .long sdx :: .ref mim :: .ref mix :: .ref mmd :: []))), (msd, .inl ((cs 0), 133, .inl gsd)), (mfr, .inl ((cs 0), 65536, .inl g_43)), (mqu, .inl ((cs 0), 65536, .inl g_44)), (miw, .inl ((cs 3), 65536, .inl g_45))]) [0, 1, 2, 3, 4] (by decide) rfl
                exact W.iret (v := x_344) hx hb hr (fun t9 ht9 hW9 => ⟨⟨_, (), rfl, trivial, ⟨v_41, v_42, g_43, g_44, g_45, (rp_46.2.1), by rw [ht9]; exact hP9, hD9⟩⟩, hS.F ht9⟩) hS.2.2 dX12_child_143
              · refine lv_if_ne (tgt := 135) hx hb dX12_child_127 (by decide) (fun c_335 => ?_) (fun c_335 => ?_)
                · have r_336 : Rg 1 1 h := Rg.ne c_335 r_34 (Rg.c (c := 0) (k := 0) rfl) (by decide)
                  refine lv_iload_n hx hb dX12_child_135 rfl (lv_at hl 4 rfl) ?_
                  exact hj_339 a _ _ _ ⟨(Rg.wk (lo2 := 0) (hi2 := 2147483647) r_26 (by decide)), hP, hD, hS, lv_sub hl [0, 1, 2, 3, 4, 5, 6] rfl⟩
                · have r_337 : Rg 0 0 h := Rg.eq_l c_335 r_34 (Rg.c (c := 0) (k := 0) rfl) (by decide)
                  refine lv_iload hx hb dX12_child_130 (lv_at hl 1 rfl) ?_
                  refine lv_goto (tgt := 136) hx hb dX12_child_132 (by decide) ?_
                  exact hj_339 v_112 _ _ _ ⟨(⟨iv_313.2.2.1, (Rg.top _).2⟩ : Rg 0 2147483647 v_112), hP, hD, hS, lv_sub hl [0, 1, 2, 3, 4, 5, 6] rfl⟩
            · have r_316 : Rg 0 71 v_111 := Rg.le_r (nlt_le c_314) (Rg.c (c := 0) (k := 0) rfl) r_311 (by decide)
              refine lv_iload hx hb dX12_child_81 (lv_at hl 1 rfl) ?_
              refine lv_aload_n hx hb dX12_child_83 rfl (lv_at hl 3 rfl) ?_
              refine lv_iload hx hb dX12_child_84 (lv_at hl 0 rfl) ?_
              have hPc := va_P.sub (ws' := [(m0, .inr (10, (.ref mtp :: .int sta :: .int sru :: .ref msg :: .ref mln :: .ref mcl :: .ref mcs :: .ref mrd :: .int snx :: .int swr :: .int snu :: .int ste :: .int sma :: .int sde :: .int sli :: .ref mop :: .int sod :: .ref mst :: .int sto :: .ref mwd :: .ref msd :: .int sx_ :: .ref mws :: .int sun :: .ref mfr :: .ref mqu :: .ref miw :: .int v_41 :: .int v_42 :: .long sdx :: .ref mim :: .ref mix :: .ref mmd :: []))), (msd, .inl ((cs 0), 133, .inl gsd))]) hP [0, 1] rfl
              refine cl_V (W.runV (As := [.int v_111]) (rest := [.int v_112]) ⟨hx, hb, hml, hown, hts⟩ (c_M_timeE l D cs m0 mtp sta sru msg mln mcl mcs mrd snx swr snu ste sma sde sli mop sod mst sto mwd msd sx_ mws sun mfr mqu miw v_41 v_42 sdx mim mix mmd gsd v_111 hsi r_316 (r_3.2 c_4)) ⟨callB_of 1 hts (gd_C qq_7_140) rfl rfl rfl (hT _ qq_1_9) (hT _ qq_7_137) (by decide +kernel) (rm_R rfl rfl), (hT _ qq_7_139), (hT _ qs_6_0)⟩ (pq_V hPc hK hN (ci := 10) (q0 := 0) rfl rfl) rfl rfl hl.1 rfl (lv_room (Nat.le_of_ble_eq_true rfl)) dX12_child_86 ⟨Nat.le_of_ble_eq_true rfl, Nat.le_of_ble_eq_true rfl⟩) ?_
              refine lv_topi (fun x_347 e_348 => ?_)
              have r_349 : Rg 1 40 x_347 := Rg.of e_348 (tm_rg (hsi) (r_3.2 c_4) (cN_lt (n := 72) r_316 (by decide)))
              refine lv_iload hx hb dX12_child_89 (lv_at hl 0 rfl) ?_
              refine lv_bipush (v := 8) hx hb dX12_child_91 (by decide) ?_
              refine w_cut (σ := (Int32)) (fun (v_353 : Int32) H locs ls => Rg 1 9 v_353 ∧ va_P D vwCl [(m0, .inr (10, (.ref mtp :: .int sta :: .int sru :: .ref msg :: .ref mln :: .ref mcl :: .ref mcs :: .ref mrd :: .int snx :: .int swr :: .int snu :: .int ste :: .int sma :: .int sde :: .int sli :: .ref mop :: .int sod :: .ref mst :: .int sto :: .ref mwd :: .ref msd :: .int sx_ :: .ref mws :: .int sun :: .ref mfr :: .ref mqu :: .ref miw :: .int v_41 :: .int v_42 :: .long sdx :: .ref mim :: .ref mix :: .ref mmd :: []))), (msd, .inl ((cs 0), 133, .inl gsd)), (mfr, .inl ((cs 0), 65536, .inl g_43)), (mqu, .inl ((cs 0), 65536, .inl g_44)), (miw, .inl ((cs 3), 65536, .inl g_45))] H ∧ va_D A [(m0, .inr (10, (.ref mtp :: .int sta :: .int sru :: .ref msg :: .ref mln :: .ref mcl :: .ref mcs :: .ref mrd :: .int snx :: .int swr :: .int snu :: .int ste :: .int sma :: .int sde :: .int sli :: .ref mop :: .int sod :: .ref mst :: .int sto :: .ref mwd :: .ref msd :: .int sx_ :: .ref mws :: .int sun :: .ref mfr :: .ref mqu :: .ref miw :: .int v_41 :: .int v_42 :: .long sdx :: .ref mim :: .ref mix :: .ref mmd :: []))), (msd, .inl ((cs 0), 133, .inl gsd)), (mfr, .inl ((cs 0), 65536, .inl g_43)), (mqu, .inl ((cs 0), 65536, .inl g_44)), (miw, .inl ((cs 3), 65536, .inl g_45))] ∧ va_S A s.heap H locs ∧ lv_has ls 7 [(6, .int v_111), (5, .int v_112), (4, .int v_113), (0, .ref m0), (1, .int a), (2, .int b), (3, .int h)]) 101 (fun (v_353 : Int32) => [.int v_353, .int x_347, .int v_112]) ?_ (fun hj_354 => ?_)
              · rintro v_353 H locs ls ⟨r_355, hP, hD, hS, hl⟩
                refine lv_imul hx hb dX12_child_101 ?_
                refine lv_topi (fun x_356 e_357 => ?_)
                have r_358 : Rg 0 360 x_356 := Rg.mul (ha := 40) (hb := 9) e_357 (Rg.wk (lo2 := 0) (hi2 := 40) r_349 (by decide)) (Rg.wk (lo2 := 0) (hi2 := 9) r_355 (by decide)) (by decide)
                refine lv_iadd hx hb dX12_child_102 ?_
                refine lv_topi (fun x_359 e_360 => ?_)
                refine lv_istore (lv' := [(5, .int x_359), (6, .int v_111), (4, .int v_113), (0, .ref m0), (1, .int a), (2, .int b), (3, .int h)]) hx hb dX12_child_103 hl (by decide) rfl (fun ls hl => ?_)
                refine lv_aload_n hx hb dX12_child_105 rfl (lv_at hl 3 rfl) ?_
                refine lv_iload hx hb dX12_child_106 (lv_at hl 2 rfl) ?_
                refine lv_iload hx hb dX12_child_108 (lv_at hl 1 rfl) ?_
                have hPc := va_P.sub (ws' := [(m0, .inr (10, (.ref mtp :: .int sta :: .int sru :: .ref msg :: .ref mln :: .ref mcl :: .ref mcs :: .ref mrd :: .int snx :: .int swr :: .int snu :: .int ste :: .int sma :: .int sde :: .int sli :: .ref mop :: .int sod :: .ref mst :: .int sto :: .ref mwd :: .ref msd :: .int sx_ :: .ref mws :: .int sun :: .ref mfr :: .ref mqu :: .ref miw :: .int v_41 :: .int v_42 :: .long sdx :: .ref mim :: .ref mix :: .ref mmd :: []))), (msd, .inl ((cs 0), 133, .inl gsd))]) hP [0, 1] rfl
                refine cl_P (W.runV (As := [.int v_113, .int v_111]) (rest := []) ⟨hx, hb, hml, hown, hts⟩ (c_M_behind l D cs m0 mtp sta sru msg mln mcl mcs mrd snx swr snu ste sma sde sli mop sod mst sto mwd msd sx_ mws sun mfr mqu miw v_41 v_42 sdx mim mix mmd gsd v_113 v_111 hsi r_316 iv_313.1) ⟨callB_of 2 hts (gd_C qq_7_126) rfl rfl rfl (hT _ qq_1_9) (hT _ qq_7_123) (by decide +kernel) (rm_R rfl rfl), (hT _ qq_7_125), (hT _ qs_5_14)⟩ (pq_V hPc hK hN (ci := 10) (q0 := 0) rfl rfl) rfl rfl hl.1 rfl (lv_room (Nat.le_of_ble_eq_true rfl)) dX12_child_110 ⟨Nat.le_of_ble_eq_true rfl, Nat.le_of_ble_eq_true rfl⟩) (fun v9 hz_362 => ?_)
                obtain ⟨x_361, rfl, r_363⟩ := hz_362
                refine lv_istore (lv' := [(4, .int x_361), (5, .int x_359), (6, .int v_111), (0, .ref m0), (1, .int a), (2, .int b), (3, .int h)]) hx hb dX12_child_113 hl (by decide) rfl (fun ls hl => ?_)
                have bk_364 : BK x_361 := (st_bk hsi iv_313.2.1 c_314 r_363.2.1 r_363.2.2).1
                refine lv_aload_n hx hb dX12_child_115 rfl (lv_at hl 3 rfl) ?_
                refine lv_iload hx hb dX12_child_116 (lv_at hl 0 rfl) ?_
                have hPc := va_P.sub (ws' := [(m0, .inr (10, (.ref mtp :: .int sta :: .int sru :: .ref msg :: .ref mln :: .ref mcl :: .ref mcs :: .ref mrd :: .int snx :: .int swr :: .int snu :: .int ste :: .int sma :: .int sde :: .int sli :: .ref mop :: .int sod :: .ref mst :: .int sto :: .ref mwd :: .ref msd :: .int sx_ :: .ref mws :: .int sun :: .ref mfr :: .ref mqu :: .ref miw :: .int v_41 :: .int v_42 :: .long sdx :: .ref mim :: .ref mix :: .ref mmd :: []))), (msd, .inl ((cs 0), 133, .inl gsd)), (mfr, .inl ((cs 0), 65536, .inl g_43))]) hP [0, 1, 2] rfl
                refine cl_P (W.runV (As := [.int x_361]) (rest := []) ⟨hx, hb, hml, hown, hts⟩ (c_M_stepFrom l D cs m0 mtp sta sru msg mln mcl mcs mrd snx swr snu ste sma sde sli mop sod mst sto mwd msd sx_ mws sun mfr mqu miw v_41 v_42 sdx mim mix mmd gsd g_43 x_361 hsi bk_364 (rp_46.1)) ⟨callB_of 1 hts (gd_C qq_8_13) rfl rfl rfl (hT _ qq_1_9) (hT _ qq_8_10) (by decide +kernel) (rm_R rfl rfl), (hT _ qq_8_12), (hT _ qs_7_3)⟩ (pq_V hPc hK hN (ci := 10) (q0 := 0) rfl rfl) rfl rfl hl.1 rfl (lv_room (Nat.le_of_ble_eq_true rfl)) dX12_child_118 ⟨Nat.le_of_ble_eq_true rfl, Nat.le_of_ble_eq_true rfl⟩) (fun v9 hz_366 => ?_)
                obtain ⟨x_365, rfl, r_367⟩ := hz_366
                refine lv_istore (lv' := [(6, .int x_365), (4, .int x_361), (5, .int x_359), (0, .ref m0), (1, .int a), (2, .int b), (3, .int h)]) hx hb dX12_child_121 hl (by decide) rfl (fun ls hl => ?_)
                refine lv_goto (tgt := 76) hx hb dX12_child_123 (by decide) ?_
                exact ih_310 (x_365, x_359, x_361) _ _ _ ⟨r_367.1, bk_364.1, ⟨bk_364, r_367.2, (ch_s hsi (rp_46.1) bk_364 iv_313.2.2 iv_313.2.1 c_314 (st_bk hsi iv_313.2.1 c_314 r_363.2.1 r_363.2.2).2.2 e_348 r_355 e_357 e_360).1⟩, hP, hD, hS, lv_sub hl [0, 2, 1, 3, 4, 5, 6] rfl⟩ ((show (g_43 (cN x_361)).toInt.toNat < (g_43 (cN v_113)).toInt.toNat from (ch_s hsi (rp_46.1) bk_364 iv_313.2.2 iv_313.2.1 c_314 (st_bk hsi iv_313.2.1 c_314 r_363.2.1 r_363.2.2).2.2 e_348 r_355 e_357 e_360).2.1))
              · refine lv_icmp_ge (tgt := 100) hx hb dX12_child_93 (by decide) (fun c_350 => ?_) (fun c_350 => ?_)
                · have r_351 : Rg 8 71 v_111 := Rg.le_r c_350 (Rg.c (c := 8) (k := 8) rfl) r_316 (by decide)
                  refine lv_iload_n hx hb dX12_child_100 rfl (lv_at hl 5 rfl) ?_
                  exact hj_354 b _ _ _ ⟨r_15, hP, hD, hS, lv_sub hl [0, 1, 2, 3, 4, 5, 6] rfl⟩
                · have r_352 : Rg 0 7 v_111 := Rg.lt_l (nle_lt c_350) r_316 (Rg.c (c := 8) (k := 8) rfl) (by decide)
                  refine lv_iload_n hx hb dX12_child_96 rfl (lv_at hl 4 rfl) ?_
                  refine lv_goto (tgt := 101) hx hb dX12_child_97 (by decide) ?_
                  exact hj_354 a _ _ _ ⟨r_26, hP, hD, hS, lv_sub hl [0, 1, 2, 3, 4, 5, 6] rfl⟩
          · have r_56 : Rg (-1) (-1) x_51 := Rg.lt_l (nle_lt c_54) r_53 (Rg.c (c := 0) (k := 0) rfl) (by decide)
            refine lv_bipush (v := (-2)) hx hb dX12_child_62 (by decide) ?_
            refine W.widen (k := 0) (n := 0) (Nat.le_of_ble_eq_true rfl) (Nat.le_of_ble_eq_true rfl) ?_
            have hP9 := hP.sub (ws' := [(m0, .inr (10, (.ref mtp :: .int sta :: .int sru :: .ref msg :: .ref mln :: .ref mcl :: .ref mcs :: .ref mrd :: .int snx :: .int swr :: .int snu :: .int ste :: .int sma :: .int sde :: .int sli :: .ref mop :: .int sod :: .ref mst :: .int sto :: .ref mwd :: .ref msd :: .int sx_ :: .ref mws :: .int sun :: .ref mfr :: .ref mqu :: .ref miw :: .int v_41 :: .int v_42 :: .long sdx :: .ref mim :: .ref mix :: .ref mmd :: []))), (msd, .inl ((cs 0), 133, .inl gsd)), (mfr, .inl ((cs 0), 65536, .inl g_43)), (mqu, .inl ((cs 0), 65536, .inl g_44)), (miw, .inl ((cs 3), 65536, .inl g_45))]) [0, 1, 2, 3, 4] rfl
            have hD9 := hD.sub (ws' := [(m0, .inr (10, (.ref mtp :: .int sta :: .int sru :: .ref msg :: .ref mln :: .ref mcl :: .ref mcs :: .ref mrd :: .int snx :: .int swr :: .int snu :: .int ste :: .int sma :: .int sde :: .int sli :: .ref mop :: .int sod :: .ref mst :: .int sto :: .ref mwd :: .ref msd :: .int sx_ :: .ref mws :: .int sun :: .ref mfr :: .ref mqu :: .ref miw :: .int v_41 :: .int v_42 :: .long sdx :: .ref mim :: .ref mix :: .ref mmd :: []))), (msd, .inl ((cs 0), 133, .inl gsd)), (mfr, .inl ((cs 0), 65536, .inl g_43)), (mqu, .inl ((cs 0), 65536, .inl g_44)), (miw, .inl ((cs 3), 65536, .inl g_45))]) [0, 1, 2, 3, 4] (by decide) rfl
            exact W.iret (v := (-2)) hx hb hr (fun t9 ht9 hW9 => ⟨⟨_, (), rfl, trivial, ⟨v_41, v_42, g_43, g_44, g_45, (rp_46.2.1), by rw [ht9]; exact hP9, hD9⟩⟩, hS.F ht9⟩) hS.2.2 dX12_child_64
        · have r_35 : Rg 0 0 x_29 := Rg.eq_l c_32 r_31.1 (Rg.c (c := 0) (k := 0) rfl) (by decide)
          refine lv_iconst (v := (-1)) hx hb dX12_child_40 (by decide) ?_
          refine W.widen (k := 0) (n := 0) (Nat.le_of_ble_eq_true rfl) (Nat.le_of_ble_eq_true rfl) ?_
          have hP9 := hP.sub (ws' := [(m0, .inr (10, (.ref mtp :: .int sta :: .int sru :: .ref msg :: .ref mln :: .ref mcl :: .ref mcs :: .ref mrd :: .int snx :: .int swr :: .int snu :: .int ste :: .int sma :: .int sde :: .int sli :: .ref mop :: .int sod :: .ref mst :: .int sto :: .ref mwd :: .ref msd :: .int sx_ :: .ref mws :: .int sun :: .ref mfr :: .ref mqu :: .ref miw :: .int sfi :: .int swa :: .long sdx :: .ref mim :: .ref mix :: .ref mmd :: []))), (msd, .inl ((cs 0), 133, .inl gsd)), (mfr, .inl ((cs 0), 65536, .inl gfr)), (mqu, .inl ((cs 0), 65536, .inl gqu)), (miw, .inl ((cs 3), 65536, .inl giw))]) [0, 1, 2, 3, 4] rfl
          have hD9 := hD.sub (ws' := [(m0, .inr (10, (.ref mtp :: .int sta :: .int sru :: .ref msg :: .ref mln :: .ref mcl :: .ref mcs :: .ref mrd :: .int snx :: .int swr :: .int snu :: .int ste :: .int sma :: .int sde :: .int sli :: .ref mop :: .int sod :: .ref mst :: .int sto :: .ref mwd :: .ref msd :: .int sx_ :: .ref mws :: .int sun :: .ref mfr :: .ref mqu :: .ref miw :: .int sfi :: .int swa :: .long sdx :: .ref mim :: .ref mix :: .ref mmd :: []))), (msd, .inl ((cs 0), 133, .inl gsd)), (mfr, .inl ((cs 0), 65536, .inl gfr)), (mqu, .inl ((cs 0), 65536, .inl gqu)), (miw, .inl ((cs 3), 65536, .inl giw))]) [0, 1, 2, 3, 4] (by decide) rfl
          exact W.iret (v := (-1)) hx hb hr (fun t9 ht9 hW9 => ⟨⟨_, (), rfl, trivial, ⟨sfi, swa, gfr, gqu, giw, hqb, by rw [ht9]; exact hP9, hD9⟩⟩, hS.F ht9⟩) hS.2.2 dX12_child_41
