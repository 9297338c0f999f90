theorem dX12_draw_0 : decode cX12_draw 0 = .ok (.aload_n 0, 1) := by decide +kernel
theorem dX12_draw_1 : decode cX12_draw 1 = .ok (.aload_n 0, 1) := by decide +kernel
theorem dX12_draw_2 : decode cX12_draw 2 = .ok (.getfield 516, 3) := by decide +kernel
theorem qq_5_181 : Cond.fieldLink "WrongHoleModel" 516 "WrongHoleModel" "drawX" "J" ∈ TB := mk_tb (ti_5 (List.mem_of_getElem? (i := 181) rfl)) rfl
theorem dX12_draw_5 : decode cX12_draw 5 = .ok (.ldc2_w 520, 3) := by decide +kernel
theorem qq_8_87 : Cond.constantLong "WrongHoleModel" 520 1103515245 ∈ TB := mk_tb (ti_8 (List.mem_of_getElem? (i := 87) rfl)) rfl
theorem dX12_draw_8 : decode cX12_draw 8 = .ok (.lmul, 1) := by decide +kernel
theorem dX12_draw_9 : decode cX12_draw 9 = .ok (.ldc2_w 522, 3) := by decide +kernel
theorem qq_8_88 : Cond.constantLong "WrongHoleModel" 522 12345 ∈ TB := mk_tb (ti_8 (List.mem_of_getElem? (i := 88) rfl)) rfl
theorem dX12_draw_12 : decode cX12_draw 12 = .ok (.ladd, 1) := by decide +kernel
theorem dX12_draw_13 : decode cX12_draw 13 = .ok (.ldc2_w 524, 3) := by decide +kernel
theorem qq_8_89 : Cond.constantLong "WrongHoleModel" 524 2147483648 ∈ TB := mk_tb (ti_8 (List.mem_of_getElem? (i := 89) rfl)) rfl
theorem dX12_draw_16 : decode cX12_draw 16 = .ok (.lrem, 1) := by decide +kernel
theorem dX12_draw_17 : decode cX12_draw 17 = .ok (.putfield 516, 3) := by decide +kernel
theorem dX12_draw_20 : decode cX12_draw 20 = .ok (.aload_n 0, 1) := by decide +kernel
theorem dX12_draw_21 : decode cX12_draw 21 = .ok (.getfield 516, 3) := by decide +kernel
theorem dX12_draw_24 : decode cX12_draw 24 = .ok (.ldc2_w 526, 3) := by decide +kernel
theorem qq_8_90 : Cond.constantLong "WrongHoleModel" 526 65536 ∈ TB := mk_tb (ti_8 (List.mem_of_getElem? (i := 90) rfl)) rfl
theorem dX12_draw_27 : decode cX12_draw 27 = .ok (.ldiv, 1) := by decide +kernel
theorem dX12_draw_28 : decode cX12_draw 28 = .ok (.iload_n 1, 1) := by decide +kernel
theorem dX12_draw_29 : decode cX12_draw 29 = .ok (.i2l, 1) := by decide +kernel
theorem dX12_draw_30 : decode cX12_draw 30 = .ok (.lrem, 1) := by decide +kernel
theorem dX12_draw_31 : decode cX12_draw 31 = .ok (.l2i, 1) := by decide +kernel
theorem dX12_draw_32 : decode cX12_draw 32 = .ok (.ireturn, 1) := by decide +kernel
set_option maxHeartbeats 4000000 in
set_option maxRecDepth 100000 in
theorem c_M_draw (l : Launch) (D : va_G) (cs : Nat → ClassId) (X : XX) (sz : Nat) (m0 : Nat) (mtp : Nat) (sta : Int32) (sru : Int32) (msg : Nat) (mln : Nat) (mcl : Nat) (mcs : Nat) (mrd : Nat) (snx : Int32) (swr : Int32) (snu : Int32) (ste : Int32) (sma : Int32) (sde : Int32) (sli : Int32) (mop : Nat) (sod : Int32) (mst : Nat) (sto : Int32) (mwd : Nat) (msd : Nat) (sx_ : Int32) (mws : Nat) (sun : Int32) (mfr : Nat) (mqu : Nat) (miw : Nat) (sfi : Int32) (swa : Int32) (sdx : Int64) (mim : Nat) (mix : Nat) (mmd : Nat) (b : Int32) (r_b : Rg 1 72 b) (hdx : D31 sdx) : Met l yX12_draw (Cond.code yX12_draw cX12_draw 2 (some .int) :: TB) (RM 0 0 0) (va_Pc [.ref m0, .int b] (PRE D cs X [(m0, .inr (10, (.ref mtp :: .int sta :: .int sru :: .ref msg :: .ref mln :: .ref mcl :: .ref mcs :: .ref mrd :: .int snx :: .int swr :: .int snu :: .int ste :: .int sma :: .int sde :: .int sli :: .ref mop :: .int sod :: .ref mst :: .int sto :: .ref mwd :: .ref msd :: .int sx_ :: .ref mws :: .int sun :: .ref mfr :: .ref mqu :: .ref miw :: .int sfi :: .int swa :: .long sdx :: .ref mim :: .ref mix :: .ref mmd :: [])))] [] sz)) (va_Qi (S := Unit) (fun r _ => 0 ≤ Int32.toInt r ∧ cN r < cN b) (fun _ t => ∃ (sdx2 : Int64), (D31 sdx2) ∧ va_P D vwCl [(m0, .inr (10, (.ref mtp :: .int sta :: .int sru :: .ref msg :: .ref mln :: .ref mcl :: .ref mcs :: .ref mrd :: .int snx :: .int swr :: .int snu :: .int ste :: .int sma :: .int sde :: .int sli :: .ref mop :: .int sod :: .ref mst :: .int sto :: .ref mwd :: .ref msd :: .int sx_ :: .ref mws :: .int sun :: .ref mfr :: .ref mqu :: .ref miw :: .int sfi :: .int swa :: .long sdx2 :: .ref mim :: .ref mix :: .ref mmd :: [])))] t.heap ∧ va_D (va_A [(m0, .inr (10, (.ref mtp :: .int sta :: .int sru :: .ref msg :: .ref mln :: .ref mcl :: .ref mcs :: .ref mrd :: .int snx :: .int swr :: .int snu :: .int ste :: .int sma :: .int sde :: .int sli :: .ref mop :: .int sod :: .ref mst :: .int sto :: .ref mwd :: .ref msd :: .int sx_ :: .ref mws :: .int sun :: .ref mfr :: .ref mqu :: .ref miw :: .int sfi :: .int swa :: .long sdx :: .ref mim :: .ref mix :: .ref mmd :: [])))] sz) [(m0, .inr (10, (.ref mtp :: .int sta :: .int sru :: .ref msg :: .ref mln :: .ref mcl :: .ref mcs :: .ref mrd :: .int snx :: .int swr :: .int snu :: .int ste :: .int sma :: .int sde :: .int sli :: .ref mop :: .int sod :: .ref mst :: .int sto :: .ref mwd :: .ref msd :: .int sx_ :: .ref mws :: .int sun :: .ref mfr :: .ref mqu :: .ref miw :: .int sfi :: .int swa :: .long sdx2 :: .ref mim :: .ref mix :: .ref mmd :: [])))]) (va_A [(m0, .inr (10, (.ref mtp :: .int sta :: .int sru :: .ref msg :: .ref mln :: .ref mcl :: .ref mcs :: .ref mrd :: .int snx :: .int swr :: .int snu :: .int ste :: .int sma :: .int sde :: .int sli :: .ref mop :: .int sod :: .ref mst :: .int sto :: .ref mwd :: .ref msd :: .int sx_ :: .ref mws :: .int sun :: .ref mfr :: .ref mqu :: .ref miw :: .int sfi :: .int swa :: .long sdx :: .ref mim :: .ref mix :: .ref mmd :: [])))] sz)) 0 0 (va_A [(m0, .inr (10, (.ref mtp :: .int sta :: .int sru :: .ref msg :: .ref mln :: .ref mcl :: .ref mcs :: .ref mrd :: .int snx :: .int swr :: .int snu :: .int ste :: .int sma :: .int sde :: .int sli :: .ref mop :: .int sod :: .ref mst :: .int sto :: .ref mwd :: .ref msd :: .int sx_ :: .ref mws :: .int sun :: .ref mfr :: .ref mqu :: .ref miw :: .int sfi :: .int swa :: .long sdx :: .ref mim :: .ref mix :: .ref mmd :: [])))] sz) := by
  refine MET (y := yX12_draw) (cc := cX12_draw) (maxL := 2) (ret := (some .int)) (d := 0) (mc := 0) (ms := 0) (D := D) (cs := cs) (X := X) (ws := [(m0, .inr (10, (.ref mtp :: .int sta :: .int sru :: .ref msg :: .ref mln :: .ref mcl :: .ref mcs :: .ref mrd :: .int snx :: .int swr :: .int snu :: .int ste :: .int sma :: .int sde :: .int sli :: .ref mop :: .int sod :: .ref mst :: .int sto :: .ref mwd :: .ref msd :: .int sx_ :: .ref mws :: .int sun :: .ref mfr :: .ref mqu :: .ref miw :: .int sfi :: .int swa :: .long sdx :: .ref mim :: .ref mix :: .ref mmd :: [])))]) (wo := []) (sz := sz) (av := [.ref m0, .int b]) (Qc := fun A => va_Qi (S := Unit) (fun r _ => 0 ≤ Int32.toInt r ∧ cN r < cN b) (fun _ t => ∃ (sdx2 : Int64), (D31 sdx2) ∧ va_P D vwCl [(m0, .inr (10, (.ref mtp :: .int sta :: .int sru :: .ref msg :: .ref mln :: .ref mcl :: .ref mcs :: .ref mrd :: .int snx :: .int swr :: .int snu :: .int ste :: .int sma :: .int sde :: .int sli :: .ref mop :: .int sod :: .ref mst :: .int sto :: .ref mwd :: .ref msd :: .int sx_ :: .ref mws :: .int sun :: .ref mfr :: .ref mqu :: .ref miw :: .int sfi :: .int swa :: .long sdx2 :: .ref mim :: .ref mix :: .ref mmd :: [])))] t.heap ∧ va_D A [(m0, .inr (10, (.ref mtp :: .int sta :: .int sru :: .ref msg :: .ref mln :: .ref mcl :: .ref mcs :: .ref mrd :: .int snx :: .int swr :: .int snu :: .int ste :: .int sma :: .int sde :: .int sli :: .ref mop :: .int sod :: .ref mst :: .int sto :: .ref mwd :: .ref msd :: .int sx_ :: .ref mws :: .int sun :: .ref mfr :: .ref mqu :: .ref miw :: .int sfi :: .int swa :: .long sdx2 :: .ref mim :: .ref mix :: .ref mmd :: [])))]) A) (by decide) (Nat.le_of_ble_eq_true rfl) ?_
  intro p e s m below meth c ls A H hHe hx hb hr hml hown hts hlocks hnm hP hK hD hA hS hN hR hX hXs hl
  have hD : va_D A [(m0, .inr (10, (.ref mtp :: .int sta :: .int sru :: .ref msg :: .ref mln :: .ref mcl :: .ref mcs :: .ref mrd :: .int snx :: .int swr :: .int snu :: .int ste :: .int sma :: .int sde :: .int sli :: .ref mop :: .int sod :: .ref mst :: .int sto :: .ref mwd :: .ref msd :: .int sx_ :: .ref mws :: .int sun :: .ref mfr :: .ref mqu :: .ref miw :: .int sfi :: .int swa :: .long sdx :: .ref mim :: .ref mix :: .ref mmd :: [])))] := hD
  obtain ⟨locs, hlc⟩ : ∃ z : List Loc, z = [] := ⟨_, rfl⟩
  rw [← hlc] at hS ⊢
  have hown : s.vm.findClass "WrongHoleModel" = some m.cls := hown
  have hT : ∀ w ∈ TB, w.before ([.ref m0, .int b] : List Value).toArray s = true := fun w h => hts w (List.mem_cons_of_mem _ h)
  have hl : lv_has ls 2 [(0, .ref m0), (1, .int b)] := hl
  have hP : va_P D vwCl [(m0, .inr (10, (.ref mtp :: .int sta :: .int sru :: .ref msg :: .ref mln :: .ref mcl :: .ref mcs :: .ref mrd :: .int snx :: .int swr :: .int snu :: .int ste :: .int sma :: .int sde :: .int sli :: .ref mop :: .int sod :: .ref mst :: .int sto :: .ref mwd :: .ref msd :: .int sx_ :: .ref mws :: .int sun :: .ref mfr :: .ref mqu :: .ref miw :: .int sfi :: .int swa :: .long sdx :: .ref mim :: .ref mix :: .ref mmd :: [])))] H := hP
  refine lv_aload_n hx hb dX12_draw_0 rfl (lv_at hl 0 rfl) ?_
  refine lv_aload_n hx hb dX12_draw_1 rfl (lv_at hl 0 rfl) ?_
  refine va_get (D := D) (ci := 10) (v := .long sdx) (C := "WrongHoleModel") (T := TX12) (N := 33) hx hb hts (iq_RX12 _) hown hK hP 0 rfl rfl 29 (by decide) (hT _ qq_5_181) (fun _ h9 => h9) rfl dX12_draw_2 ?_
  refine lv_ldc2 (v := 1103515245) hx hb hown (hT _ qq_8_87) dX12_draw_5 ?_
  refine lv_lmul hx hb dX12_draw_8 ?_
  refine lv_topl (fun x_1 e_2 => ?_)
  refine lv_ldc2 (v := 12345) hx hb hown (hT _ qq_8_88) dX12_draw_9 ?_
  refine lv_ladd hx hb dX12_draw_12 ?_
  refine lv_topl (fun x_3 e_4 => ?_)
  refine lv_ldc2 (v := 2147483648) hx hb hown (hT _ qq_8_89) dX12_draw_13 ?_
  refine lv_lrem hx hb dX12_draw_16 (by decide) ?_
  refine lv_topl (fun x_5 e_6 => ?_)
  refine va_put (D := D) (ci := 10) (v := .long x_5) (ty := .long) (C := "WrongHoleModel") (T := TX12) (N := 33) hx hb hts (iq_RX12 _) tyX12 tyX12_ok nmX12 hown hK hP hD hS 0 rfl rfl 29 (by decide) (hT _ qq_5_181) (fun _ h9 => h9) rfl (by decide +kernel) rfl rfl (Nat.le_of_ble_eq_true rfl) dX12_draw_17 (fun H locs hP hD hS => ?_)
  have hP : va_P D vwCl [(m0, .inr (10, (.ref mtp :: .int sta :: .int sru :: .ref msg :: .ref mln :: .ref mcl :: .ref mcs :: .ref mrd :: .int snx :: .int swr :: .int snu :: .int ste :: .int sma :: .int sde :: .int sli :: .ref mop :: .int sod :: .ref mst :: .int sto :: .ref mwd :: .ref msd :: .int sx_ :: .ref mws :: .int sun :: .ref mfr :: .ref mqu :: .ref miw :: .int sfi :: .int swa :: .long x_5 :: .ref mim :: .ref mix :: .ref mmd :: [])))] H := hP
  have hD : va_D A [(m0, .inr (10, (.ref mtp :: .int sta :: .int sru :: .ref msg :: .ref mln :: .ref mcl :: .ref mcs :: .ref mrd :: .int snx :: .int swr :: .int snu :: .int ste :: .int sma :: .int sde :: .int sli :: .ref mop :: .int sod :: .ref mst :: .int sto :: .ref mwd :: .ref msd :: .int sx_ :: .ref mws :: .int sun :: .ref mfr :: .ref mqu :: .ref miw :: .int sfi :: .int swa :: .long x_5 :: .ref mim :: .ref mix :: .ref mmd :: [])))] := hD
  refine lv_aload_n hx hb dX12_draw_20 rfl (lv_at hl 0 rfl) ?_
  refine va_get (D := D) (ci := 10) (v := .long x_5) (C := "WrongHoleModel") (T := TX12) (N := 33) hx hb hts (iq_RX12 _) hown hK hP 0 rfl rfl 29 (by decide) (hT _ qq_5_181) (fun _ h9 => h9) rfl dX12_draw_21 ?_
  refine lv_ldc2 (v := 65536) hx hb hown (hT _ qq_8_90) dX12_draw_24 ?_
  refine lv_ldiv hx hb dX12_draw_27 (by decide) ?_
  refine lv_topl (fun x_7 e_8 => ?_)
  refine lv_iload_n hx hb dX12_draw_28 rfl (lv_at hl 1 rfl) ?_
  refine lv_i2l (v := Int32.toInt64 b) hx hb dX12_draw_29 rfl ?_
  refine lv_topl (fun x_9 e_10 => ?_)
  refine lv_lrem hx hb dX12_draw_30 (dr_ne e_10 r_b (by decide)) ?_
  refine lv_topl (fun x_11 e_12 => ?_)
  obtain ⟨x_13, e_14⟩ : ∃ z : Int32, Int64.toInt32 x_11 = z := ⟨_, rfl⟩
  refine lv_l2i (v := x_13) hx hb dX12_draw_31 e_14 ?_
  refine W.widen (k := 0) (n := 0) (Nat.le_of_ble_eq_true rfl) (Nat.le_of_ble_eq_true rfl) ?_
  have hP9 := hP.sub (ws' := [(m0, .inr (10, (.ref mtp :: .int sta :: .int sru :: .ref msg :: .ref mln :: .ref mcl :: .ref mcs :: .ref mrd :: .int snx :: .int swr :: .int snu :: .int ste :: .int sma :: .int sde :: .int sli :: .ref mop :: .int sod :: .ref mst :: .int sto :: .ref mwd :: .ref msd :: .int sx_ :: .ref mws :: .int sun :: .ref mfr :: .ref mqu :: .ref miw :: .int sfi :: .int swa :: .long x_5 :: .ref mim :: .ref mix :: .ref mmd :: [])))]) [0] rfl
  have hD9 := hD.sub (ws' := [(m0, .inr (10, (.ref mtp :: .int sta :: .int sru :: .ref msg :: .ref mln :: .ref mcl :: .ref mcs :: .ref mrd :: .int snx :: .int swr :: .int snu :: .int ste :: .int sma :: .int sde :: .int sli :: .ref mop :: .int sod :: .ref mst :: .int sto :: .ref mwd :: .ref msd :: .int sx_ :: .ref mws :: .int sun :: .ref mfr :: .ref mqu :: .ref miw :: .int sfi :: .int swa :: .long x_5 :: .ref mim :: .ref mix :: .ref mmd :: [])))]) [0] (by decide) rfl
  exact W.iret (v := x_13) hx hb hr (fun t9 ht9 hW9 => ⟨⟨_, (), rfl, (dr_x (dr_d hdx e_2 e_4 e_6) e_8 e_10 e_12 e_14 r_b (by decide)), ⟨x_5, (dr_d hdx e_2 e_4 e_6), by rw [ht9]; exact hP9, hD9⟩⟩, hS.F ht9⟩) hS.2.2 dX12_draw_32
theorem dX12_dressed_0 : decode cX12_dressed 0 = .ok (.aload_n 0, 1) := by decide +kernel
theorem dX12_dressed_1 : decode cX12_dressed 1 = .ok (.invokevirtual 397, 3) := by decide +kernel
theorem dX12_dressed_4 : decode cX12_dressed 4 = .ok (.ifCond .eq 39, 3) := by decide +kernel
theorem dX12_dressed_43 : decode cX12_dressed 43 = .ok (.iconst (-1), 1) := by decide +kernel
theorem dX12_dressed_44 : decode cX12_dressed 44 = .ok (.ireturn, 1) := by decide +kernel
theorem dX12_dressed_7 : decode cX12_dressed 7 = .ok (.iload_n 1, 1) := by decide +kernel
theorem dX12_dressed_8 : decode cX12_dressed 8 = .ok (.i2l, 1) := by decide +kernel
theorem dX12_dressed_9 : decode cX12_dressed 9 = .ok (.lconst 1, 1) := by decide +kernel
theorem dX12_dressed_10 : decode cX12_dressed 10 = .ok (.ldc2_w 528, 3) := by decide +kernel
theorem qq_8_82 : Cond.constantLong "WrongHoleModel" 528 20 ∈ TB := mk_tb (ti_8 (List.mem_of_getElem? (i := 82) rfl)) rfl
theorem dX12_dressed_13 : decode cX12_dressed 13 = .ok (.invokestatic 104, 3) := by decide +kernel
theorem dX12_dressed_16 : decode cX12_dressed 16 = .ok (.ifCond .eq 27, 3) := by decide +kernel
theorem dX12_dressed_19 : decode cX12_dressed 19 = .ok (.iload_n 2, 1) := by decide +kernel
theorem dX12_dressed_20 : decode cX12_dressed 20 = .ok (.i2l, 1) := by decide +kernel
theorem dX12_dressed_21 : decode cX12_dressed 21 = .ok (.lconst 1, 1) := by decide +kernel
theorem dX12_dressed_22 : decode cX12_dressed 22 = .ok (.ldc2_w 444, 3) := by decide +kernel
theorem qq_7_166 : Cond.constantLong "WrongHoleModel" 444 60 ∈ TB := mk_tb (ti_7 (List.mem_of_getElem? (i := 166) rfl)) rfl
theorem dX12_dressed_25 : decode cX12_dressed 25 = .ok (.invokestatic 104, 3) := by decide +kernel
theorem dX12_dressed_28 : decode cX12_dressed 28 = .ok (.ifCond .eq 15, 3) := by decide +kernel
theorem dX12_dressed_31 : decode cX12_dressed 31 = .ok (.iload_n 3, 1) := by decide +kernel
theorem dX12_dressed_32 : decode cX12_dressed 32 = .ok (.i2l, 1) := by decide +kernel
theorem dX12_dressed_33 : decode cX12_dressed 33 = .ok (.lconst 0, 1) := by decide +kernel
theorem dX12_dressed_34 : decode cX12_dressed 34 = .ok (.ldc2_w 395, 3) := by decide +kernel
theorem dX12_dressed_37 : decode cX12_dressed 37 = .ok (.invokestatic 104, 3) := by decide +kernel
theorem dX12_dressed_40 : decode cX12_dressed 40 = .ok (.ifCond .ne 5, 3) := by decide +kernel
theorem dX12_dressed_45 : decode cX12_dressed 45 = .ok (.aload_n 0, 1) := by decide +kernel
theorem dX12_dressed_46 : decode cX12_dressed 46 = .ok (.aload_n 0, 1) := by decide +kernel
theorem dX12_dressed_47 : decode cX12_dressed 47 = .ok (.getfield 513, 3) := by decide +kernel
theorem qq_5_173 : Cond.fieldLink "WrongHoleModel" 513 "WrongHoleModel" "x" "I" ∈ TB := mk_tb (ti_5 (List.mem_of_getElem? (i := 173) rfl)) rfl
theorem dX12_dressed_50 : decode cX12_dressed 50 = .ok (.i2l, 1) := by decide +kernel
theorem dX12_dressed_51 : decode cX12_dressed 51 = .ok (.putfield 516, 3) := by decide +kernel
theorem dX12_dressed_54 : decode cX12_dressed 54 = .ok (.iconst 0, 1) := by decide +kernel
theorem dX12_dressed_55 : decode cX12_dressed 55 = .ok (.istore 4, 2) := by decide +kernel
theorem dX12_dressed_57 : decode cX12_dressed 57 = .ok (.iconst 0, 1) := by decide +kernel
theorem dX12_dressed_58 : decode cX12_dressed 58 = .ok (.istore 5, 2) := by decide +kernel
theorem dX12_dressed_60 : decode cX12_dressed 60 = .ok (.iconst 0, 1) := by decide +kernel
theorem dX12_dressed_61 : decode cX12_dressed 61 = .ok (.istore 6, 2) := by decide +kernel
theorem dX12_dressed_63 : decode cX12_dressed 63 = .ok (.iconst 0, 1) := by decide +kernel
theorem dX12_dressed_64 : decode cX12_dressed 64 = .ok (.istore 7, 2) := by decide +kernel
theorem dX12_dressed_66 : decode cX12_dressed 66 = .ok (.iload 7, 2) := by decide +kernel
theorem dX12_dressed_68 : decode cX12_dressed 68 = .ok (.iload_n 1, 1) := by decide +kernel
theorem dX12_dressed_69 : decode cX12_dressed 69 = .ok (.if_icmp .ge 114, 3) := by decide +kernel
theorem dX12_dressed_183 : decode cX12_dressed 183 = .ok (.iload_n 3, 1) := by decide +kernel
theorem dX12_dressed_184 : decode cX12_dressed 184 = .ok (.ifCond .ne 8, 3) := by decide +kernel
theorem dX12_dressed_192 : decode cX12_dressed 192 = .ok (.iload_n 3, 1) := by decide +kernel
theorem dX12_dressed_193 : decode cX12_dressed 193 = .ok (.iconst 1, 1) := by decide +kernel
theorem dX12_dressed_194 : decode cX12_dressed 194 = .ok (.if_icmp .ne 8, 3) := by decide +kernel
theorem dX12_dressed_202 : decode cX12_dressed 202 = .ok (.iload 6, 2) := by decide +kernel
theorem dX12_dressed_204 : decode cX12_dressed 204 = .ok (.ireturn, 1) := by decide +kernel
theorem dX12_dressed_197 : decode cX12_dressed 197 = .ok (.iload 5, 2) := by decide +kernel
theorem dX12_dressed_199 : decode cX12_dressed 199 = .ok (.goto 5, 3) := by decide +kernel
theorem dX12_dressed_187 : decode cX12_dressed 187 = .ok (.iload 4, 2) := by decide +kernel
theorem dX12_dressed_189 : decode cX12_dressed 189 = .ok (.goto 15, 3) := by decide +kernel
theorem dX12_dressed_72 : decode cX12_dressed 72 = .ok (.aload_n 0, 1) := by decide +kernel
theorem dX12_dressed_73 : decode cX12_dressed 73 = .ok (.invokevirtual 402, 3) := by decide +kernel
theorem dX12_dressed_76 : decode cX12_dressed 76 = .ok (.istore 8, 2) := by decide +kernel
theorem dX12_dressed_78 : decode cX12_dressed 78 = .ok (.iconst 0, 1) := by decide +kernel
theorem dX12_dressed_79 : decode cX12_dressed 79 = .ok (.istore 9, 2) := by decide +kernel
theorem dX12_dressed_81 : decode cX12_dressed 81 = .ok (.iload 9, 2) := by decide +kernel
theorem dX12_dressed_83 : decode cX12_dressed 83 = .ok (.iload_n 2, 1) := by decide +kernel
theorem dX12_dressed_84 : decode cX12_dressed 84 = .ok (.if_icmp .ge 60, 3) := by decide +kernel
theorem dX12_dressed_144 : decode cX12_dressed 144 = .ok (.iload 4, 2) := by decide +kernel
theorem dX12_dressed_146 : decode cX12_dressed 146 = .ok (.aload_n 0, 1) := by decide +kernel
theorem dX12_dressed_147 : decode cX12_dressed 147 = .ok (.iload 8, 2) := by decide +kernel
theorem dX12_dressed_149 : decode cX12_dressed 149 = .ok (.invokevirtual 356, 3) := by decide +kernel
theorem dX12_dressed_152 : decode cX12_dressed 152 = .ok (.invokestatic 341, 3) := by decide +kernel
theorem dX12_dressed_155 : decode cX12_dressed 155 = .ok (.iadd, 1) := by decide +kernel
theorem dX12_dressed_156 : decode cX12_dressed 156 = .ok (.istore 4, 2) := by decide +kernel
theorem dX12_dressed_158 : decode cX12_dressed 158 = .ok (.iload 6, 2) := by decide +kernel
theorem dX12_dressed_160 : decode cX12_dressed 160 = .ok (.aload_n 0, 1) := by decide +kernel
theorem dX12_dressed_161 : decode cX12_dressed 161 = .ok (.iload 8, 2) := by decide +kernel
theorem dX12_dressed_163 : decode cX12_dressed 163 = .ok (.invokevirtual 405, 3) := by decide +kernel
theorem dX12_dressed_166 : decode cX12_dressed 166 = .ok (.ifCond .eq 7, 3) := by decide +kernel
theorem dX12_dressed_174 : decode cX12_dressed 174 = .ok (.iadd, 1) := by decide +kernel
theorem dX12_dressed_175 : decode cX12_dressed 175 = .ok (.istore 6, 2) := by decide +kernel
theorem dX12_dressed_177 : decode cX12_dressed 177 = .ok (.iinc 7 1, 3) := by decide +kernel
theorem dX12_dressed_180 : decode cX12_dressed 180 = .ok (.goto (-114), 3) := by decide +kernel
theorem dX12_dressed_173 : decode cX12_dressed 173 = .ok (.iconst 0, 1) := by decide +kernel
theorem dX12_dressed_169 : decode cX12_dressed 169 = .ok (.iconst 1, 1) := by decide +kernel
theorem dX12_dressed_170 : decode cX12_dressed 170 = .ok (.goto 4, 3) := by decide +kernel
theorem dX12_dressed_87 : decode cX12_dressed 87 = .ok (.aload_n 0, 1) := by decide +kernel
theorem dX12_dressed_88 : decode cX12_dressed 88 = .ok (.iload 8, 2) := by decide +kernel
theorem dX12_dressed_90 : decode cX12_dressed 90 = .ok (.invokevirtual 452, 3) := by decide +kernel
theorem dX12_dressed_93 : decode cX12_dressed 93 = .ok (.istore 10, 2) := by decide +kernel
theorem dX12_dressed_95 : decode cX12_dressed 95 = .ok (.iload 10, 2) := by decide +kernel
theorem dX12_dressed_97 : decode cX12_dressed 97 = .ok (.ifCond .ne 6, 3) := by decide +kernel
theorem dX12_dressed_138 : decode cX12_dressed 138 = .ok (.iinc 9 1, 3) := by decide +kernel
theorem dX12_dressed_141 : decode cX12_dressed 141 = .ok (.goto (-60), 3) := by decide +kernel
theorem dX12_dressed_103 : decode cX12_dressed 103 = .ok (.aload_n 0, 1) := by decide +kernel
theorem dX12_dressed_104 : decode cX12_dressed 104 = .ok (.iload 8, 2) := by decide +kernel
theorem dX12_dressed_106 : decode cX12_dressed 106 = .ok (.aload_n 0, 1) := by decide +kernel
theorem dX12_dressed_107 : decode cX12_dressed 107 = .ok (.iload 10, 2) := by decide +kernel
theorem dX12_dressed_109 : decode cX12_dressed 109 = .ok (.invokevirtual 530, 3) := by decide +kernel
theorem qq_8_86 : Cond.code yX12_draw cX12_draw 2 (some .int) ∈ TB := mk_tb (ti_8 (List.mem_of_getElem? (i := 86) rfl)) rfl
theorem qq_8_83 : Cond.methodLink "WrongHoleModel" 530 yX12_draw ∈ TB := mk_tb (ti_8 (List.mem_of_getElem? (i := 83) rfl)) rfl
theorem qq_8_85 : Cond.instanceMethod yX12_draw ∈ TB := mk_tb (ti_8 (List.mem_of_getElem? (i := 85) rfl)) rfl
theorem qs_7_9 : Cond.selects "WrongHoleModel" yX12_draw yX12_draw ∈ TB := mk_tb (ti_s (q := (yX12_draw, 33)) (List.mem_append_right _ (List.mem_append_right _ (List.mem_append_right _ (List.mem_append_right _ (List.mem_append_right _ (List.mem_append_right _ (List.mem_append_right _ (List.mem_of_getElem? (i := 9) rfl))))))))) rfl
theorem dX12_dressed_112 : decode cX12_dressed 112 = .ok (.invokevirtual 449, 3) := by decide +kernel
theorem dX12_dressed_115 : decode cX12_dressed 115 = .ok (.istore 11, 2) := by decide +kernel
theorem dX12_dressed_117 : decode cX12_dressed 117 = .ok (.iload 5, 2) := by decide +kernel
theorem dX12_dressed_119 : decode cX12_dressed 119 = .ok (.aload_n 0, 1) := by decide +kernel
theorem dX12_dressed_120 : decode cX12_dressed 120 = .ok (.iload 11, 2) := by decide +kernel
theorem dX12_dressed_122 : decode cX12_dressed 122 = .ok (.invokevirtual 416, 3) := by decide +kernel
theorem dX12_dressed_125 : decode cX12_dressed 125 = .ok (.iadd, 1) := by decide +kernel
theorem dX12_dressed_126 : decode cX12_dressed 126 = .ok (.istore 5, 2) := by decide +kernel
theorem dX12_dressed_128 : decode cX12_dressed 128 = .ok (.aload_n 0, 1) := by decide +kernel
theorem dX12_dressed_129 : decode cX12_dressed 129 = .ok (.iload 8, 2) := by decide +kernel
theorem dX12_dressed_131 : decode cX12_dressed 131 = .ok (.iload 11, 2) := by decide +kernel
theorem dX12_dressed_133 : decode cX12_dressed 133 = .ok (.invokevirtual 381, 3) := by decide +kernel
theorem dX12_dressed_136 : decode cX12_dressed 136 = .ok (.istore 8, 2) := by decide +kernel
theorem dX12_dressed_100 : decode cX12_dressed 100 = .ok (.goto 38, 3) := by decide +kernel
set_option maxHeartbeats 4000000 in
set_option maxRecDepth 100000 in
theorem c_M_dressed (l : Launch) (D : va_G) (cs : Nat → ClassId) (X : XX) (sz : Nat) (m0 : Nat) (mtp : Nat) (sta : Int32) (sru : Int32) (msg : Nat) (mln : Nat) (mcl : Nat) (mcs : Nat) (mrd : Nat) (snx : Int32) (swr : Int32) (snu : Int32) (ste : Int32) (sma : Int32) (sde : Int32) (sli : Int32) (mop : Nat) (sod : Int32) (mst : Nat) (sto : Int32) (mwd : Nat) (msd : Nat) (sx_ : Int32) (mws : Nat) (sun : Int32) (mfr : Nat) (mqu : Nat) (miw : Nat) (sfi : Int32) (swa : Int32) (sdx : Int64) (mim : Nat) (mix : Nat) (mmd : Nat) (gsd : Nat → Int32) (a : Int32) (b : Int32) (h : Int32) (hsi : SI gsd) (r_sx_ : Rg 0 2147483647 sx_) : Met l yX12_dressed (Cond.code yX12_dressed cX12_dressed 12 (some .int) :: TB) (RM 8 0 0) (va_Pc [.ref m0, .int a, .int b, .int h] (PRE D cs X [(m0, .inr (10, (.ref mtp :: .int sta :: .int sru :: .ref msg :: .ref mln :: .ref mcl :: .ref mcs :: .ref mrd :: .int snx :: .int swr :: .int snu :: .int ste :: .int sma :: .int sde :: .int sli :: .ref mop :: .int sod :: .ref mst :: .int sto :: .ref mwd :: .ref msd :: .int sx_ :: .ref mws :: .int sun :: .ref mfr :: .ref mqu :: .ref miw :: .int sfi :: .int swa :: .long sdx :: .ref mim :: .ref mix :: .ref mmd :: []))), (msd, .inl ((cs 0), 133, .inl gsd))] [] sz)) (va_Qi (S := Unit) (fun r _ => True) (fun _ t => ∃ (sdx2 : Int64), va_P D vwCl [(m0, .inr (10, (.ref mtp :: .int sta :: .int sru :: .ref msg :: .ref mln :: .ref mcl :: .ref mcs :: .ref mrd :: .int snx :: .int swr :: .int snu :: .int ste :: .int sma :: .int sde :: .int sli :: .ref mop :: .int sod :: .ref mst :: .int sto :: .ref mwd :: .ref msd :: .int sx_ :: .ref mws :: .int sun :: .ref mfr :: .ref mqu :: .ref miw :: .int sfi :: .int swa :: .long sdx2 :: .ref mim :: .ref mix :: .ref mmd :: []))), (msd, .inl ((cs 0), 133, .inl gsd))] t.heap ∧ va_D (va_A [(m0, .inr (10, (.ref mtp :: .int sta :: .int sru :: .ref msg :: .ref mln :: .ref mcl :: .ref mcs :: .ref mrd :: .int snx :: .int swr :: .int snu :: .int ste :: .int sma :: .int sde :: .int sli :: .ref mop :: .int sod :: .ref mst :: .int sto :: .ref mwd :: .ref msd :: .int sx_ :: .ref mws :: .int sun :: .ref mfr :: .ref mqu :: .ref miw :: .int sfi :: .int swa :: .long sdx :: .ref mim :: .ref mix :: .ref mmd :: []))), (msd, .inl ((cs 0), 133, .inl gsd))] sz) [(m0, .inr (10, (.ref mtp :: .int sta :: .int sru :: .ref msg :: .ref mln :: .ref mcl :: .ref mcs :: .ref mrd :: .int snx :: .int swr :: .int snu :: .int ste :: .int sma :: .int sde :: .int sli :: .ref mop :: .int sod :: .ref mst :: .int sto :: .ref mwd :: .ref msd :: .int sx_ :: .ref mws :: .int sun :: .ref mfr :: .ref mqu :: .ref miw :: .int sfi :: .int swa :: .long sdx2 :: .ref mim :: .ref mix :: .ref mmd :: []))), (msd, .inl ((cs 0), 133, .inl gsd))]) (va_A [(m0, .inr (10, (.ref mtp :: .int sta :: .int sru :: .ref msg :: .ref mln :: .ref mcl :: .ref mcs :: .ref mrd :: .int snx :: .int swr :: .int snu :: .int ste :: .int sma :: .int sde :: .int sli :: .ref mop :: .int sod :: .ref mst :: .int sto :: .ref mwd :: .ref msd :: .int sx_ :: .ref mws :: .int sun :: .ref mfr :: .ref mqu :: .ref miw :: .int sfi :: .int swa :: .long sdx :: .ref mim :: .ref mix :: .ref mmd :: []))), (msd, .inl ((cs 0), 133, .inl gsd))] sz)) 0 0 (va_A [(m0, .inr (10, (.ref mtp :: .int sta :: .int sru :: .ref msg :: .ref mln :: .ref mcl :: .ref mcs :: .ref mrd :: .int snx :: .int swr :: .int snu :: .int ste :: .int sma :: .int sde :: .int sli :: .ref mop :: .int sod :: .ref mst :: .int sto :: .ref mwd :: .ref msd :: .int sx_ :: .ref mws :: .int sun :: .ref mfr :: .ref mqu :: .ref miw :: .int sfi :: .int swa :: .long sdx :: .ref mim :: .ref mix :: .ref mmd :: []))), (msd, .inl ((cs 0), 133, .inl gsd))] sz) := by
  refine MET (y := yX12_dressed) (cc := cX12_dressed) (maxL := 12) (ret := (some .int)) (d := 8) (mc := 0) (ms := 0) (D := D) (cs := cs) (X := X) (ws := [(m0, .inr (10, (.ref mtp :: .int sta :: .int sru :: .ref msg :: .ref mln :: .ref mcl :: .ref mcs :: .ref mrd :: .int snx :: .int swr :: .int snu :: .int ste :: .int sma :: .int sde :: .int sli :: .ref mop :: .int sod :: .ref mst :: .int sto :: .ref mwd :: .ref msd :: .int sx_ :: .ref mws :: .int sun :: .ref mfr :: .ref mqu :: .ref miw :: .int sfi :: .int swa :: .long sdx :: .ref mim :: .ref mix :: .ref mmd :: []))), (msd, .inl ((cs 0), 133, .inl gsd))]) (wo := []) (sz := sz) (av := [.ref m0, .int a, .int b, .int h]) (Qc := fun A => va_Qi (S := Unit) (fun r _ => True) (fun _ t => ∃ (sdx2 : Int64), va_P D vwCl [(m0, .inr (10, (.ref mtp :: .int sta :: .int sru :: .ref msg :: .ref mln :: .ref mcl :: .ref mcs :: .ref mrd :: .int snx :: .int swr :: .int snu :: .int ste :: .int sma :: .int sde :: .int sli :: .ref mop :: .int sod :: .ref mst :: .int sto :: .ref mwd :: .ref msd :: .int sx_ :: .ref mws :: .int sun :: .ref mfr :: .ref mqu :: .ref miw :: .int sfi :: .int swa :: .long sdx2 :: .ref mim :: .ref mix :: .ref mmd :: []))), (msd, .inl ((cs 0), 133, .inl gsd))] t.heap ∧ va_D A [(m0, .inr (10, (.ref mtp :: .int sta :: .int sru :: .ref msg :: .ref mln :: .ref mcl :: .ref mcs :: .ref mrd :: .int snx :: .int swr :: .int snu :: .int ste :: .int sma :: .int sde :: .int sli :: .ref mop :: .int sod :: .ref mst :: .int sto :: .ref mwd :: .ref msd :: .int sx_ :: .ref mws :: .int sun :: .ref mfr :: .ref mqu :: .ref miw :: .int sfi :: .int swa :: .long sdx2 :: .ref mim :: .ref mix :: .ref mmd :: []))), (msd, .inl ((cs 0), 133, .inl gsd))]) A) (by decide) (Nat.le_of_ble_eq_true rfl) ?_
  intro p e s m below meth c ls A H hHe hx hb hr hml hown hts hlocks hnm hP hK hD hA hS hN hR hX hXs hl
  have hD : va_D A [(m0, .inr (10, (.ref mtp :: .int sta :: .int sru :: .ref msg :: .ref mln :: .ref mcl :: .ref mcs :: .ref mrd :: .int snx :: .int swr :: .int snu :: .int ste :: .int sma :: .int sde :: .int sli :: .ref mop :: .int sod :: .ref mst :: .int sto :: .ref mwd :: .ref msd :: .int sx_ :: .ref mws :: .int sun :: .ref mfr :: .ref mqu :: .ref miw :: .int sfi :: .int swa :: .long sdx :: .ref mim :: .ref mix :: .ref mmd :: []))), (msd, .inl ((cs 0), 133, .inl gsd))] := hD
  obtain ⟨locs, hlc⟩ : ∃ z : List Loc, z = [] := ⟨_, rfl⟩
  rw [← hlc] at hS ⊢
  have hown : s.vm.findClass "WrongHoleModel" = some m.cls := hown
  have hT : ∀ w ∈ TB, w.before ([.ref m0, .int a, .int b, .int h] : List Value).toArray s = true := fun w h => hts w (List.mem_cons_of_mem _ h)
  have hl : lv_has ls 12 [(0, .ref m0), (1, .int a), (2, .int b), (3, .int h)] := hl
  have hP : va_P D vwCl [(m0, .inr (10, (.ref mtp :: .int sta :: .int sru :: .ref msg :: .ref mln :: .ref mcl :: .ref mcs :: .ref mrd :: .int snx :: .int swr :: .int snu :: .int ste :: .int sma :: .int sde :: .int sli :: .ref mop :: .int sod :: .ref mst :: .int sto :: .ref mwd :: .ref msd :: .int sx_ :: .ref mws :: .int sun :: .ref mfr :: .ref mqu :: .ref miw :: .int sfi :: .int swa :: .long sdx :: .ref mim :: .ref mix :: .ref mmd :: []))), (msd, .inl ((cs 0), 133, .inl gsd))] H := hP
  refine lv_aload_n hx hb dX12_dressed_0 rfl (lv_at hl 0 rfl) ?_
  have hPc := va_P.sub (ws' := [(m0, .inr (10, (.ref mtp :: .int sta :: .int sru :: .ref msg :: .ref mln :: .ref mcl :: .ref mcs :: .ref mrd :: .int snx :: .int swr :: .int snu :: .int ste :: .int sma :: .int sde :: .int sli :: .ref mop :: .int sod :: .ref mst :: .int sto :: .ref mwd :: .ref msd :: .int sx_ :: .ref mws :: .int sun :: .ref mfr :: .ref mqu :: .ref miw :: .int sfi :: .int swa :: .long sdx :: .ref mim :: .ref mix :: .ref mmd :: []))), (msd, .inl ((cs 0), 133, .inl gsd))]) hP [0, 1] rfl
  refine cl_P (W.runV (As := []) (rest := []) ⟨hx, hb, hml, hown, hts⟩ (c_M_isLift l D cs m0 mtp sta sru msg mln mcl mcs mrd snx swr snu ste sma sde sli mop sod mst sto mwd msd sx_ mws sun mfr mqu miw sfi swa sdx mim mix mmd gsd hsi) ⟨callB_of 0 hts (gd_C qq_7_46) rfl rfl rfl (hT _ qq_1_9) (hT _ qq_7_43) (by decide +kernel) (rm_R rfl rfl), (hT _ qq_7_45), (hT _ qs_5_2)⟩ (pq_V hPc hK hN (ci := 10) (q0 := 0) rfl rfl) rfl rfl hl.1 rfl (lv_room (Nat.le_of_ble_eq_true rfl)) dX12_dressed_1 ⟨Nat.le_of_ble_eq_true rfl, Nat.le_of_ble_eq_true rfl⟩) (fun v9 hz_2 => ?_)
  obtain ⟨x_1, rfl, r_3⟩ := hz_2
  refine lv_if_eq (tgt := 43) hx hb dX12_dressed_4 (by decide) (fun c_4 => ?_) (fun c_4 => ?_)
  · have r_5 : Rg 0 0 x_1 := Rg.eq_l c_4 r_3.1 (Rg.c (c := 0) (k := 0) rfl) (by decide)
    refine lv_iconst (v := (-1)) hx hb dX12_dressed_43 (by decide) ?_
    refine W.widen (k := 0) (n := 0) (Nat.le_of_ble_eq_true rfl) (Nat.le_of_ble_eq_true rfl) ?_
    have hP9 := hP.sub (ws' := [(m0, .inr (10, (.ref mtp :: .int sta :: .int sru :: .ref msg :: .ref mln :: .ref mcl :: .ref mcs :: .ref mrd :: .int snx :: .int swr :: .int snu :: .int ste :: .int sma :: .int sde :: .int sli :: .ref mop :: .int sod :: .ref mst :: .int sto :: .ref mwd :: .ref msd :: .int sx_ :: .ref mws :: .int sun :: .ref mfr :: .ref mqu :: .ref miw :: .int sfi :: .int swa :: .long sdx :: .ref mim :: .ref mix :: .ref mmd :: []))), (msd, .inl ((cs 0), 133, .inl gsd))]) [0, 1] rfl
    have hD9 := hD.sub (ws' := [(m0, .inr (10, (.ref mtp :: .int sta :: .int sru :: .ref msg :: .ref mln :: .ref mcl :: .ref mcs :: .ref mrd :: .int snx :: .int swr :: .int snu :: .int ste :: .int sma :: .int sde :: .int sli :: .ref mop :: .int sod :: .ref mst :: .int sto :: .ref mwd :: .ref msd :: .int sx_ :: .ref mws :: .int sun :: .ref mfr :: .ref mqu :: .ref miw :: .int sfi :: .int swa :: .long sdx :: .ref mim :: .ref mix :: .ref mmd :: []))), (msd, .inl ((cs 0), 133, .inl gsd))]) [0, 1] (by decide) rfl
    exact W.iret (v := (-1)) hx hb hr (fun t9 ht9 hW9 => ⟨⟨_, (), rfl, trivial, ⟨sdx, by rw [ht9]; exact hP9, hD9⟩⟩, hS.F ht9⟩) hS.2.2 dX12_dressed_44
  · have r_6 : Rg 1 1 x_1 := Rg.ne c_4 r_3.1 (Rg.c (c := 0) (k := 0) rfl) (by decide)
    refine lv_iload_n hx hb dX12_dressed_7 rfl (lv_at hl 1 rfl) ?_
    refine lv_i2l (v := Int32.toInt64 a) hx hb dX12_dressed_8 rfl ?_
    refine lv_topl (fun x_7 e_8 => ?_)
    refine lv_lconst (v := 1) hx hb dX12_dressed_9 (by decide) ?_
    refine lv_ldc2 (v := 20) hx hb hown (hT _ qq_8_82) dX12_dressed_10 ?_
    have hPc := va_P.sub (ws' := []) hP [] rfl
    refine cl_P (W.runS (As := [.long x_7, .long 1, .long 20]) (rest := []) ⟨hx, hb, hml, hown, hts⟩ (c_M_in l D cs x_7 1 20) ⟨callB_of 3 hts (gd_C qq_6_97) rfl rfl rfl (hT _ qq_1_9) (hT _ qq_6_95) (by decide +kernel) (rm_R rfl rfl), (hT _ qq_6_96)⟩ (pq_S hPc hK hN) rfl rfl hl.1 rfl (lv_room (Nat.le_of_ble_eq_true rfl)) dX12_dressed_13 ⟨Nat.le_of_ble_eq_true rfl, Nat.le_of_ble_eq_true rfl⟩) (fun v9 hz_10 => ?_)
    obtain ⟨x_9, rfl, r_11⟩ := hz_10
    refine lv_if_eq (tgt := 43) hx hb dX12_dressed_16 (by decide) (fun c_12 => ?_) (fun c_12 => ?_)
    · have r_13 : Rg 0 0 x_9 := Rg.eq_l c_12 r_11.1 (Rg.c (c := 0) (k := 0) rfl) (by decide)
      refine lv_iconst (v := (-1)) hx hb dX12_dressed_43 (by decide) ?_
      refine W.widen (k := 0) (n := 0) (Nat.le_of_ble_eq_true rfl) (Nat.le_of_ble_eq_true rfl) ?_
      have hP9 := hP.sub (ws' := [(m0, .inr (10, (.ref mtp :: .int sta :: .int sru :: .ref msg :: .ref mln :: .ref mcl :: .ref mcs :: .ref mrd :: .int snx :: .int swr :: .int snu :: .int ste :: .int sma :: .int sde :: .int sli :: .ref mop :: .int sod :: .ref mst :: .int sto :: .ref mwd :: .ref msd :: .int sx_ :: .ref mws :: .int sun :: .ref mfr :: .ref mqu :: .ref miw :: .int sfi :: .int swa :: .long sdx :: .ref mim :: .ref mix :: .ref mmd :: []))), (msd, .inl ((cs 0), 133, .inl gsd))]) [0, 1] rfl
      have hD9 := hD.sub (ws' := [(m0, .inr (10, (.ref mtp :: .int sta :: .int sru :: .ref msg :: .ref mln :: .ref mcl :: .ref mcs :: .ref mrd :: .int snx :: .int swr :: .int snu :: .int ste :: .int sma :: .int sde :: .int sli :: .ref mop :: .int sod :: .ref mst :: .int sto :: .ref mwd :: .ref msd :: .int sx_ :: .ref mws :: .int sun :: .ref mfr :: .ref mqu :: .ref miw :: .int sfi :: .int swa :: .long sdx :: .ref mim :: .ref mix :: .ref mmd :: []))), (msd, .inl ((cs 0), 133, .inl gsd))]) [0, 1] (by decide) rfl
      exact W.iret (v := (-1)) hx hb hr (fun t9 ht9 hW9 => ⟨⟨_, (), rfl, trivial, ⟨sdx, by rw [ht9]; exact hP9, hD9⟩⟩, hS.F ht9⟩) hS.2.2 dX12_dressed_44
    · have r_14 : Rg 1 1 x_9 := Rg.ne c_12 r_11.1 (Rg.c (c := 0) (k := 0) rfl) (by decide)
      have r_15 : Rg 1 20 a := in_rg e_8 (r_11.2 c_12) (by decide) (by decide)
      refine lv_iload_n hx hb dX12_dressed_19 rfl (lv_at hl 2 rfl) ?_
      refine lv_i2l (v := Int32.toInt64 b) hx hb dX12_dressed_20 rfl ?_
      refine lv_topl (fun x_16 e_17 => ?_)
      refine lv_lconst (v := 1) hx hb dX12_dressed_21 (by decide) ?_
      refine lv_ldc2 (v := 60) hx hb hown (hT _ qq_7_166) dX12_dressed_22 ?_
      have hPc := va_P.sub (ws' := []) hP [] rfl
      refine cl_P (W.runS (As := [.long x_16, .long 1, .long 60]) (rest := []) ⟨hx, hb, hml, hown, hts⟩ (c_M_in l D cs x_16 1 60) ⟨callB_of 3 hts (gd_C qq_6_97) rfl rfl rfl (hT _ qq_1_9) (hT _ qq_6_95) (by decide +kernel) (rm_R rfl rfl), (hT _ qq_6_96)⟩ (pq_S hPc hK hN) rfl rfl hl.1 rfl (lv_room (Nat.le_of_ble_eq_true rfl)) dX12_dressed_25 ⟨Nat.le_of_ble_eq_true rfl, Nat.le_of_ble_eq_true rfl⟩) (fun v9 hz_19 => ?_)
      obtain ⟨x_18, rfl, r_20⟩ := hz_19
      refine lv_if_eq (tgt := 43) hx hb dX12_dressed_28 (by decide) (fun c_21 => ?_) (fun c_21 => ?_)
      · have r_22 : Rg 0 0 x_18 := Rg.eq_l c_21 r_20.1 (Rg.c (c := 0) (k := 0) rfl) (by decide)
        refine lv_iconst (v := (-1)) hx hb dX12_dressed_43 (by decide) ?_
        refine W.widen (k := 0) (n := 0) (Nat.le_of_ble_eq_true rfl) (Nat.le_of_ble_eq_true rfl) ?_
        have hP9 := hP.sub (ws' := [(m0, .inr (10, (.ref mtp :: .int sta :: .int sru :: .ref msg :: .ref mln :: .ref mcl :: .ref mcs :: .ref mrd :: .int snx :: .int swr :: .int snu :: .int ste :: .int sma :: .int sde :: .int sli :: .ref mop :: .int sod :: .ref mst :: .int sto :: .ref mwd :: .ref msd :: .int sx_ :: .ref mws :: .int sun :: .ref mfr :: .ref mqu :: .ref miw :: .int sfi :: .int swa :: .long sdx :: .ref mim :: .ref mix :: .ref mmd :: []))), (msd, .inl ((cs 0), 133, .inl gsd))]) [0, 1] rfl
        have hD9 := hD.sub (ws' := [(m0, .inr (10, (.ref mtp :: .int sta :: .int sru :: .ref msg :: .ref mln :: .ref mcl :: .ref mcs :: .ref mrd :: .int snx :: .int swr :: .int snu :: .int ste :: .int sma :: .int sde :: .int sli :: .ref mop :: .int sod :: .ref mst :: .int sto :: .ref mwd :: .ref msd :: .int sx_ :: .ref mws :: .int sun :: .ref mfr :: .ref mqu :: .ref miw :: .int sfi :: .int swa :: .long sdx :: .ref mim :: .ref mix :: .ref mmd :: []))), (msd, .inl ((cs 0), 133, .inl gsd))]) [0, 1] (by decide) rfl
        exact W.iret (v := (-1)) hx hb hr (fun t9 ht9 hW9 => ⟨⟨_, (), rfl, trivial, ⟨sdx, by rw [ht9]; exact hP9, hD9⟩⟩, hS.F ht9⟩) hS.2.2 dX12_dressed_44
      · have r_23 : Rg 1 1 x_18 := Rg.ne c_21 r_20.1 (Rg.c (c := 0) (k := 0) rfl) (by decide)
        have r_24 : Rg 1 60 b := in_rg e_17 (r_20.2 c_21) (by decide) (by decide)
        refine lv_iload_n hx hb dX12_dressed_31 rfl (lv_at hl 3 rfl) ?_
        refine lv_i2l (v := Int32.toInt64 h) hx hb dX12_dressed_32 rfl ?_
        refine lv_topl (fun x_25 e_26 => ?_)
        refine lv_lconst (v := 0) hx hb dX12_dressed_33 (by decide) ?_
        refine lv_ldc2 (v := 2) hx hb hown (hT _ qq_7_38) dX12_dressed_34 ?_
        have hPc := va_P.sub (ws' := []) hP [] rfl
        refine cl_P (W.runS (As := [.long x_25, .long 0, .long 2]) (rest := []) ⟨hx, hb, hml, hown, hts⟩ (c_M_in l D cs x_25 0 2) ⟨callB_of 3 hts (gd_C qq_6_97) rfl rfl rfl (hT _ qq_1_9) (hT _ qq_6_95) (by decide +kernel) (rm_R rfl rfl), (hT _ qq_6_96)⟩ (pq_S hPc hK hN) rfl rfl hl.1 rfl (lv_room (Nat.le_of_ble_eq_true rfl)) dX12_dressed_37 ⟨Nat.le_of_ble_eq_true rfl, Nat.le_of_ble_eq_true rfl⟩) (fun v9 hz_28 => ?_)
        obtain ⟨x_27, rfl, r_29⟩ := hz_28
        refine lv_if_ne (tgt := 45) hx hb dX12_dressed_40 (by decide) (fun c_30 => ?_) (fun c_30 => ?_)
        · have r_31 : Rg 1 1 x_27 := Rg.ne c_30 r_29.1 (Rg.c (c := 0) (k := 0) rfl) (by decide)
          have r_32 : Rg 0 2 h := in_rg e_26 (r_29.2 c_30) (by decide) (by decide)
          refine lv_aload_n hx hb dX12_dressed_45 rfl (lv_at hl 0 rfl) ?_
          refine lv_aload_n hx hb dX12_dressed_46 rfl (lv_at hl 0 rfl) ?_
          refine va_get (D := D) (ci := 10) (v := .int sx_) (C := "WrongHoleModel") (T := TX12) (N := 33) hx hb hts (iq_RX12 _) hown hK hP 0 rfl rfl 21 (by decide) (hT _ qq_5_173) (fun _ h9 => h9) rfl dX12_dressed_47 ?_
          refine lv_i2l (v := Int32.toInt64 sx_) hx hb dX12_dressed_50 rfl ?_
          refine lv_topl (fun x_34 e_35 => ?_)
          refine va_put (D := D) (ci := 10) (v := .long x_34) (ty := .long) (C := "WrongHoleModel") (T := TX12) (N := 33) hx hb hts (iq_RX12 _) tyX12 tyX12_ok nmX12 hown hK hP hD hS 0 rfl rfl 29 (by decide) (hT _ qq_5_181) (fun _ h9 => h9) rfl (by decide +kernel) rfl rfl (Nat.le_of_ble_eq_true rfl) dX12_dressed_51 (fun H locs hP hD hS => ?_)
          have hP : va_P D vwCl [(m0, .inr (10, (.ref mtp :: .int sta :: .int sru :: .ref msg :: .ref mln :: .ref mcl :: .ref mcs :: .ref mrd :: .int snx :: .int swr :: .int snu :: .int ste :: .int sma :: .int sde :: .int sli :: .ref mop :: .int sod :: .ref mst :: .int sto :: .ref mwd :: .ref msd :: .int sx_ :: .ref mws :: .int sun :: .ref mfr :: .ref mqu :: .ref miw :: .int sfi :: .int swa :: .long x_34 :: .ref mim :: .ref mix :: .ref mmd :: []))), (msd, .inl ((cs 0), 133, .inl gsd))] H := hP
          have hD : va_D A [(m0, .inr (10, (.ref mtp :: .int sta :: .int sru :: .ref msg :: .ref mln :: .ref mcl :: .ref mcs :: .ref mrd :: .int snx :: .int swr :: .int snu :: .int ste :: .int sma :: .int sde :: .int sli :: .ref mop :: .int sod :: .ref mst :: .int sto :: .ref mwd :: .ref msd :: .int sx_ :: .ref mws :: .int sun :: .ref mfr :: .ref mqu :: .ref miw :: .int sfi :: .int swa :: .long x_34 :: .ref mim :: .ref mix :: .ref mmd :: []))), (msd, .inl ((cs 0), 133, .inl gsd))] := hD
          refine lv_iconst (v := 0) hx hb dX12_dressed_54 (by decide) ?_
          refine lv_istore (lv' := [(4, .int 0), (0, .ref m0), (1, .int a), (2, .int b), (3, .int h)]) hx hb dX12_dressed_55 hl (by decide) rfl (fun ls hl => ?_)
          refine lv_iconst (v := 0) hx hb dX12_dressed_57 (by decide) ?_
          refine lv_istore (lv' := [(5, .int 0), (4, .int 0), (0, .ref m0), (1, .int a), (2, .int b), (3, .int h)]) hx hb dX12_dressed_58 hl (by decide) rfl (fun ls hl => ?_)
          refine lv_iconst (v := 0) hx hb dX12_dressed_60 (by decide) ?_
          refine lv_istore (lv' := [(6, .int 0), (5, .int 0), (4, .int 0), (0, .ref m0), (1, .int a), (2, .int b), (3, .int h)]) hx hb dX12_dressed_61 hl (by decide) rfl (fun ls hl => ?_)
          refine lv_iconst (v := 0) hx hb dX12_dressed_63 (by decide) ?_
          refine lv_istore (lv' := [(7, .int 0), (6, .int 0), (5, .int 0), (4, .int 0), (0, .ref m0), (1, .int a), (2, .int b), (3, .int h)]) hx hb dX12_dressed_64 hl (by decide) rfl (fun ls hl => ?_)
          refine w_wh (σ := (Int32) × (Int32) × (Int32) × (Int32) × (Int64)) (fun x9 H locs ls => match x9 with | (v_1158, v_1159, v_1160, v_1161, z_1162) => Rg 0 20 v_1158 ∧ (D31 z_1162) ∧ va_P D vwCl [(m0, .inr (10, (.ref mtp :: .int sta :: .int sru :: .ref msg :: .ref mln :: .ref mcl :: .ref mcs :: .ref mrd :: .int snx :: .int swr :: .int snu :: .int ste :: .int sma :: .int sde :: .int sli :: .ref mop :: .int sod :: .ref mst :: .int sto :: .ref mwd :: .ref msd :: .int sx_ :: .ref mws :: .int sun :: .ref mfr :: .ref mqu :: .ref miw :: .int sfi :: .int swa :: .long z_1162 :: .ref mim :: .ref mix :: .ref mmd :: []))), (msd, .inl ((cs 0), 133, .inl gsd))] H ∧ va_D A [(m0, .inr (10, (.ref mtp :: .int sta :: .int sru :: .ref msg :: .ref mln :: .ref mcl :: .ref mcs :: .ref mrd :: .int snx :: .int swr :: .int snu :: .int ste :: .int sma :: .int sde :: .int sli :: .ref mop :: .int sod :: .ref mst :: .int sto :: .ref mwd :: .ref msd :: .int sx_ :: .ref mws :: .int sun :: .ref mfr :: .ref mqu :: .ref miw :: .int sfi :: .int swa :: .long z_1162 :: .ref mim :: .ref mix :: .ref mmd :: []))), (msd, .inl ((cs 0), 133, .inl gsd))] ∧ va_S A s.heap H locs ∧ lv_has ls 12 [(7, .int v_1158), (6, .int v_1159), (5, .int v_1160), (4, .int v_1161), (0, .ref m0), (1, .int a), (2, .int b), (3, .int h)]) (fun x9 => match x9 with | (v_1158, v_1159, v_1160, v_1161, z_1162) => (20 - Int32.toInt v_1158).toNat) 66 ?_ (0, 0, 0, 0, x_34) H locs ls ⟨(Rg.wk (lo2 := 0) (hi2 := 20) (Rg.c (c := 0) (k := 0) rfl) (by decide)), (d_x r_sx_ e_35), hP, hD, hS, lv_sub hl [0, 1, 2, 3, 4, 5, 6, 7] rfl⟩
          rintro ⟨v_1158, v_1159, v_1160, v_1161, z_1162⟩ H locs ls ⟨r_21558, iv_21559, hP, hD, hS, hl⟩ ih_21557
          refine lv_iload hx hb dX12_dressed_66 (lv_at hl 0 rfl) ?_
          refine lv_iload_n hx hb dX12_dressed_68 rfl (lv_at hl 5 rfl) ?_
          refine lv_icmp_ge (tgt := 183) hx hb dX12_dressed_69 (by decide) (fun c_21560 => ?_) (fun c_21560 => ?_)
          · have r_21561 : Rg 1 20 v_1158 := Rg.le_r c_21560 r_15 r_21558 (by decide)
            refine lv_iload_n hx hb dX12_dressed_183 rfl (lv_at hl 7 rfl) ?_
            refine lv_if_ne (tgt := 192) hx hb dX12_dressed_184 (by decide) (fun c_22687 => ?_) (fun c_22687 => ?_)
            · have r_22688 : Rg 1 2 h := Rg.ne c_22687 r_32 (Rg.c (c := 0) (k := 0) rfl) (by decide)
              refine lv_iload_n hx hb dX12_dressed_192 rfl (lv_at hl 7 rfl) ?_
              refine lv_iconst (v := 1) hx hb dX12_dressed_193 (by decide) ?_
              refine lv_icmp_ne (tgt := 202) hx hb dX12_dressed_194 (by decide) (fun c_22693 => ?_) (fun c_22693 => ?_)
              · have r_22694 : Rg 2 2 h := Rg.ne c_22693 r_22688 (Rg.c (c := 1) (k := 1) rfl) (by decide)
                refine lv_iload hx hb dX12_dressed_202 (lv_at hl 1 rfl) ?_
                refine W.widen (k := 0) (n := 0) (Nat.le_of_ble_eq_true rfl) (Nat.le_of_ble_eq_true rfl) ?_
                have hP9 := hP.sub (ws' := [(m0, .inr (10, (.ref mtp :: .int sta :: .int sru :: .ref msg :: .ref mln :: .ref mcl :: .ref mcs :: .ref mrd :: .int snx :: .int swr :: .int snu :: .int ste :: .int sma :: .int sde :: .int sli :: .ref mop :: .int sod :: .ref mst :: .int sto :: .ref mwd :: .ref msd :: .int sx_ :: .ref mws :: .int sun :: .ref mfr :: .ref mqu :: .ref miw :: .int sfi :: .int swa :: .long z_1162 :: .ref mim :: .ref mix :: .ref mmd :: []))), (msd, .inl ((cs 0), 133, .inl gsd))]) [0, 1] rfl
                have hD9 := hD.sub (ws' := [(m0, .inr (10, (.ref mtp :: .int sta :: .int sru :: .ref msg :: .ref mln :: .ref mcl :: .ref mcs :: .ref mrd :: .int snx :: .int swr :: .int snu :: .int ste :: .int sma :: .int sde :: .int sli :: .ref mop :: .int sod :: .ref mst :: .int sto :: .ref mwd :: .ref msd :: .int sx_ :: .ref mws :: .int sun :: .ref mfr :: .ref mqu :: .ref miw :: .int sfi :: .int swa :: .long z_1162 :: .ref mim :: .ref mix :: .ref mmd :: []))), (msd, .inl ((cs 0), 133, .inl gsd))]) [0, 1] (by decide) rfl
                exact W.iret (v := v_1159) hx hb hr (fun t9 ht9 hW9 => ⟨⟨_, (), rfl, trivial, ⟨z_1162, by rw [ht9]; exact hP9, hD9⟩⟩, hS.F ht9⟩) hS.2.2 dX12_dressed_204
              · have r_22695 : Rg 1 1 h := Rg.eq_l c_22693 r_22688 (Rg.c (c := 1) (k := 1) rfl) (by decide)
                refine lv_iload hx hb dX12_dressed_197 (lv_at hl 2 rfl) ?_
                refine lv_goto (tgt := 204) hx hb dX12_dressed_199 (by decide) ?_
                refine W.widen (k := 0) (n := 0) (Nat.le_of_ble_eq_true rfl) (Nat.le_of_ble_eq_true rfl) ?_
                have hP9 := hP.sub (ws' := [(m0, .inr (10, (.ref mtp :: .int sta :: .int sru :: .ref msg :: .ref mln :: .ref mcl :: .ref mcs :: .ref mrd :: .int snx :: .int swr :: .int snu :: .int ste :: .int sma :: .int sde :: .int sli :: .ref mop :: .int sod :: .ref mst :: .int sto :: .ref mwd :: .ref msd :: .int sx_ :: .ref mws :: .int sun :: .ref mfr :: .ref mqu :: .ref miw :: .int sfi :: .int swa :: .long z_1162 :: .ref mim :: .ref mix :: .ref mmd :: []))), (msd, .inl ((cs 0), 133, .inl gsd))]) [0, 1] rfl
                have hD9 := hD.sub (ws' := [(m0, .inr (10, (.ref mtp :: .int sta :: .int sru :: .ref msg :: .ref mln :: .ref mcl :: .ref mcs :: .ref mrd :: .int snx :: .int swr :: .int snu :: .int ste :: .int sma :: .int sde :: .int sli :: .ref mop :: .int sod :: .ref mst :: .int sto :: .ref mwd :: .ref msd :: .int sx_ :: .ref mws :: .int sun :: .ref mfr :: .ref mqu :: .ref miw :: .int sfi :: .int swa :: .long z_1162 :: .ref mim :: .ref mix :: .ref mmd :: []))), (msd, .inl ((cs 0), 133, .inl gsd))]) [0, 1] (by decide) rfl
                exact W.iret (v := v_1160) hx hb hr (fun t9 ht9 hW9 => ⟨⟨_, (), rfl, trivial, ⟨z_1162, by rw [ht9]; exact hP9, hD9⟩⟩, hS.F ht9⟩) hS.2.2 dX12_dressed_204
            · have r_22689 : Rg 0 0 h := Rg.eq_l c_22687 r_32 (Rg.c (c := 0) (k := 0) rfl) (by decide)
              refine lv_iload hx hb dX12_dressed_187 (lv_at hl 3 rfl) ?_
              refine lv_goto (tgt := 204) hx hb dX12_dressed_189 (by decide) ?_
              refine W.widen (k := 0) (n := 0) (Nat.le_of_ble_eq_true rfl) (Nat.le_of_ble_eq_true rfl) ?_
              have hP9 := hP.sub (ws' := [(m0, .inr (10, (.ref mtp :: .int sta :: .int sru :: .ref msg :: .ref mln :: .ref mcl :: .ref mcs :: .ref mrd :: .int snx :: .int swr :: .int snu :: .int ste :: .int sma :: .int sde :: .int sli :: .ref mop :: .int sod :: .ref mst :: .int sto :: .ref mwd :: .ref msd :: .int sx_ :: .ref mws :: .int sun :: .ref mfr :: .ref mqu :: .ref miw :: .int sfi :: .int swa :: .long z_1162 :: .ref mim :: .ref mix :: .ref mmd :: []))), (msd, .inl ((cs 0), 133, .inl gsd))]) [0, 1] rfl
              have hD9 := hD.sub (ws' := [(m0, .inr (10, (.ref mtp :: .int sta :: .int sru :: .ref msg :: .ref mln :: .ref mcl :: .ref mcs :: .ref mrd :: .int snx :: .int swr :: .int snu :: .int ste :: .int sma :: .int sde :: .int sli :: .ref mop :: .int sod :: .ref mst :: .int sto :: .ref mwd :: .ref msd :: .int sx_ :: .ref mws :: .int sun :: .ref mfr :: .ref mqu :: .ref miw :: .int sfi :: .int swa :: .long z_1162 :: .ref mim :: .ref mix :: .ref mmd :: []))), (msd, .inl ((cs 0), 133, .inl gsd))]) [0, 1] (by decide) rfl
              exact W.iret (v := v_1161) hx hb hr (fun t9 ht9 hW9 => ⟨⟨_, (), rfl, trivial, ⟨z_1162, by rw [ht9]; exact hP9, hD9⟩⟩, hS.F ht9⟩) hS.2.2 dX12_dressed_204
          · have r_21562 : Rg 0 19 v_1158 := Rg.lt_l (nle_lt c_21560) r_21558 r_15 (by decide)
            refine lv_aload_n hx hb dX12_dressed_72 rfl (lv_at hl 4 rfl) ?_
            have hPc := va_P.sub (ws' := [(m0, .inr (10, (.ref mtp :: .int sta :: .int sru :: .ref msg :: .ref mln :: .ref mcl :: .ref mcs :: .ref mrd :: .int snx :: .int swr :: .int snu :: .int ste :: .int sma :: .int sde :: .int sli :: .ref mop :: .int sod :: .ref mst :: .int sto :: .ref mwd :: .ref msd :: .int sx_ :: .ref mws :: .int sun :: .ref mfr :: .ref mqu :: .ref miw :: .int sfi :: .int swa :: .long z_1162 :: .ref mim :: .ref mix :: .ref mmd :: []))), (msd, .inl ((cs 0), 133, .inl gsd))]) hP [0, 1] rfl
            refine cl_P (W.runV (As := []) (rest := []) ⟨hx, hb, hml, hown, hts⟩ (c_M_situationNow l D cs m0 mtp sta sru msg mln mcl mcs mrd snx swr snu ste sma sde sli mop sod mst sto mwd msd sx_ mws sun mfr mqu miw sfi swa z_1162 mim mix mmd gsd hsi) ⟨callB_of 0 hts (gd_C qq_7_51) rfl rfl rfl (hT _ qq_1_9) (hT _ qq_7_48) (by decide +kernel) (rm_R rfl rfl), (hT _ qq_7_50), (hT _ qs_5_3)⟩ (pq_V hPc hK hN (ci := 10) (q0 := 0) rfl rfl) rfl rfl hl.1 rfl (lv_room (Nat.le_of_ble_eq_true rfl)) dX12_dressed_73 ⟨Nat.le_of_ble_eq_true rfl, Nat.le_of_ble_eq_true rfl⟩) (fun v9 hz_22697 => ?_)
            obtain ⟨x_22696, rfl, r_22698⟩ := hz_22697
            refine lv_istore (lv' := [(8, .int x_22696), (7, .int v_1158), (6, .int v_1159), (5, .int v_1160), (4, .int v_1161), (0, .ref m0), (1, .int a), (2, .int b), (3, .int h)]) hx hb dX12_dressed_76 hl (by decide) rfl (fun ls hl => ?_)
            refine lv_iconst (v := 0) hx hb dX12_dressed_78 (by decide) ?_
            refine lv_istore (lv' := [(9, .int 0), (8, .int x_22696), (7, .int v_1158), (6, .int v_1159), (5, .int v_1160), (4, .int v_1161), (0, .ref m0), (1, .int a), (2, .int b), (3, .int h)]) hx hb dX12_dressed_79 hl (by decide) rfl (fun ls hl => ?_)
            refine w_wh (σ := (Int32) × (Int32) × (Int32) × (Int64)) (fun x9 H locs ls => match x9 with | (v_22745, v_22746, v_22747, z_22748) => Rg 0 60 v_22745 ∧ Rg 0 65535 v_22746 ∧ (BK v_22746 ∧ D31 z_22748) ∧ va_P D vwCl [(m0, .inr (10, (.ref mtp :: .int sta :: .int sru :: .ref msg :: .ref mln :: .ref mcl :: .ref mcs :: .ref mrd :: .int snx :: .int swr :: .int snu :: .int ste :: .int sma :: .int sde :: .int sli :: .ref mop :: .int sod :: .ref mst :: .int sto :: .ref mwd :: .ref msd :: .int sx_ :: .ref mws :: .int sun :: .ref mfr :: .ref mqu :: .ref miw :: .int sfi :: .int swa :: .long z_22748 :: .ref mim :: .ref mix :: .ref mmd :: []))), (msd, .inl ((cs 0), 133, .inl gsd))] H ∧ va_D A [(m0, .inr (10, (.ref mtp :: .int sta :: .int sru :: .ref msg :: .ref mln :: .ref mcl :: .ref mcs :: .ref mrd :: .int snx :: .int swr :: .int snu :: .int ste :: .int sma :: .int sde :: .int sli :: .ref mop :: .int sod :: .ref mst :: .int sto :: .ref mwd :: .ref msd :: .int sx_ :: .ref mws :: .int sun :: .ref mfr :: .ref mqu :: .ref miw :: .int sfi :: .int swa :: .long z_22748 :: .ref mim :: .ref mix :: .ref mmd :: []))), (msd, .inl ((cs 0), 133, .inl gsd))] ∧ va_S A s.heap H locs ∧ lv_has ls 12 [(9, .int v_22745), (8, .int v_22746), (7, .int v_1158), (6, .int v_1159), (5, .int v_22747), (4, .int v_1161), (0, .ref m0), (1, .int a), (2, .int b), (3, .int h)]) (fun x9 => match x9 with | (v_22745, v_22746, v_22747, z_22748) => (60 - Int32.toInt v_22745).toNat) 81 ?_ (0, x_22696, v_1160, z_1162) H locs ls ⟨(Rg.wk (lo2 := 0) (hi2 := 60) (Rg.c (c := 0) (k := 0) rfl) (by decide)), r_22698.1.1, ⟨(r_22698.1), iv_21559⟩, hP, hD, hS, lv_sub hl [0, 1, 2, 3, 4, 5, 6, 7, 8, 9] rfl⟩
            rintro ⟨v_22745, v_22746, v_22747, z_22748⟩ H locs ls ⟨r_23702, r_23703, iv_23704, hP, hD, hS, hl⟩ ih_23701
            refine lv_iload hx hb dX12_dressed_81 (lv_at hl 0 rfl) ?_
            refine lv_iload_n hx hb dX12_dressed_83 rfl (lv_at hl 8 rfl) ?_
            refine lv_icmp_ge (tgt := 144) hx hb dX12_dressed_84 (by decide) (fun c_23705 => ?_) (fun c_23705 => ?_)
            · have r_23706 : Rg 1 60 v_22745 := Rg.le_r c_23705 r_24 r_23702 (by decide)
              refine lv_iload hx hb dX12_dressed_144 (lv_at hl 5 rfl) ?_
              refine lv_aload_n hx hb dX12_dressed_146 rfl (lv_at hl 6 rfl) ?_
              refine lv_iload hx hb dX12_dressed_147 (lv_at hl 1 rfl) ?_
              have hPc := va_P.sub (ws' := [(m0, .inr (10, (.ref mtp :: .int sta :: .int sru :: .ref msg :: .ref mln :: .ref mcl :: .ref mcs :: .ref mrd :: .int snx :: .int swr :: .int snu :: .int ste :: .int sma :: .int sde :: .int sli :: .ref mop :: .int sod :: .ref mst :: .int sto :: .ref mwd :: .ref msd :: .int sx_ :: .ref mws :: .int sun :: .ref mfr :: .ref mqu :: .ref miw :: .int sfi :: .int swa :: .long z_22748 :: .ref mim :: .ref mix :: .ref mmd :: []))), (msd, .inl ((cs 0), 133, .inl gsd))]) hP [0, 1] rfl
              refine cl_P (W.runV (As := [.int v_22746]) (rest := [.int v_1161]) ⟨hx, hb, hml, hown, hts⟩ (c_M_rightIn l D cs m0 mtp sta sru msg mln mcl mcs mrd snx swr snu ste sma sde sli mop sod mst sto mwd msd sx_ mws sun mfr mqu miw sfi swa z_22748 mim mix mmd gsd v_22746 hsi iv_23704.1) ⟨callB_of 1 hts (gd_C qq_7_69) rfl rfl rfl (hT _ qq_1_9) (hT _ qq_7_66) (by decide +kernel) (rm_R rfl rfl), (hT _ qq_7_68), (hT _ qs_5_6)⟩ (pq_V hPc hK hN (ci := 10) (q0 := 0) rfl rfl) rfl rfl hl.1 rfl (lv_room (Nat.le_of_ble_eq_true rfl)) dX12_dressed_149 ⟨Nat.le_of_ble_eq_true rfl, Nat.le_of_ble_eq_true rfl⟩) (fun v9 hz_23757 => ?_)
              obtain ⟨x_23756, rfl, r_23758⟩ := hz_23757
              have hPc := va_P.sub (ws' := []) hP [] rfl
              refine cl_V (W.runS (As := [.int x_23756]) (rest := [.int v_1161]) ⟨hx, hb, hml, hown, hts⟩ (c_M_bits l D cs x_23756 r_23758) ⟨callB_of 1 hts (gd_C qq_7_61) rfl rfl rfl (hT _ qq_1_9) (hT _ qq_7_59) (by decide +kernel) (rm_R rfl rfl), (hT _ qq_7_60)⟩ (pq_S hPc hK hN) rfl rfl hl.1 rfl (lv_room (Nat.le_of_ble_eq_true rfl)) dX12_dressed_152 ⟨Nat.le_of_ble_eq_true rfl, Nat.le_of_ble_eq_true rfl⟩) ?_
              refine lv_topi (fun x_23759 e_23760 => ?_)
              have r_23761 : Rg 0 8 x_23759 := Rg.of e_23760 (pc_rg _)
              refine lv_iadd hx hb dX12_dressed_155 ?_
              refine lv_topi (fun x_23762 e_23763 => ?_)
              refine lv_istore (lv' := [(4, .int x_23762), (9, .int v_22745), (8, .int v_22746), (7, .int v_1158), (6, .int v_1159), (5, .int v_22747), (0, .ref m0), (1, .int a), (2, .int b), (3, .int h)]) hx hb dX12_dressed_156 hl (by decide) rfl (fun ls hl => ?_)
              refine lv_iload hx hb dX12_dressed_158 (lv_at hl 4 rfl) ?_
              refine lv_aload_n hx hb dX12_dressed_160 rfl (lv_at hl 6 rfl) ?_
              refine lv_iload hx hb dX12_dressed_161 (lv_at hl 2 rfl) ?_
              have hPc := va_P.sub (ws' := [(m0, .inr (10, (.ref mtp :: .int sta :: .int sru :: .ref msg :: .ref mln :: .ref mcl :: .ref mcs :: .ref mrd :: .int snx :: .int swr :: .int snu :: .int ste :: .int sma :: .int sde :: .int sli :: .ref mop :: .int sod :: .ref mst :: .int sto :: .ref mwd :: .ref msd :: .int sx_ :: .ref mws :: .int sun :: .ref mfr :: .ref mqu :: .ref miw :: .int sfi :: .int swa :: .long z_22748 :: .ref mim :: .ref mix :: .ref mmd :: []))), (msd, .inl ((cs 0), 133, .inl gsd))]) hP [0, 1] rfl
              refine cl_P (W.runV (As := [.int v_22746]) (rest := [.int v_1159]) ⟨hx, hb, hml, hown, hts⟩ (c_M_isGoal l D cs m0 mtp sta sru msg mln mcl mcs mrd snx swr snu ste sma sde sli mop sod mst sto mwd msd sx_ mws sun mfr mqu miw sfi swa z_22748 mim mix mmd gsd v_22746 hsi iv_23704.1) ⟨callB_of 1 hts (gd_C qq_7_93) rfl rfl rfl (hT _ qq_1_9) (hT _ qq_7_90) (by decide +kernel) (rm_R rfl rfl), (hT _ qq_7_92), (hT _ qs_5_9)⟩ (pq_V hPc hK hN (ci := 10) (q0 := 0) rfl rfl) rfl rfl hl.1 rfl (lv_room (Nat.le_of_ble_eq_true rfl)) dX12_dressed_163 ⟨Nat.le_of_ble_eq_true rfl, Nat.le_of_ble_eq_true rfl⟩) (fun v9 hz_23765 => ?_)
              obtain ⟨x_23764, rfl, r_23766⟩ := hz_23765
              refine w_cut (σ := (Int32)) (fun (v_23770 : Int32) H locs ls => Rg 0 1 v_23770 ∧ va_P D vwCl [(m0, .inr (10, (.ref mtp :: .int sta :: .int sru :: .ref msg :: .ref mln :: .ref mcl :: .ref mcs :: .ref mrd :: .int snx :: .int swr :: .int snu :: .int ste :: .int sma :: .int sde :: .int sli :: .ref mop :: .int sod :: .ref mst :: .int sto :: .ref mwd :: .ref msd :: .int sx_ :: .ref mws :: .int sun :: .ref mfr :: .ref mqu :: .ref miw :: .int sfi :: .int swa :: .long z_22748 :: .ref mim :: .ref mix :: .ref mmd :: []))), (msd, .inl ((cs 0), 133, .inl gsd))] H ∧ va_D A [(m0, .inr (10, (.ref mtp :: .int sta :: .int sru :: .ref msg :: .ref mln :: .ref mcl :: .ref mcs :: .ref mrd :: .int snx :: .int swr :: .int snu :: .int ste :: .int sma :: .int sde :: .int sli :: .ref mop :: .int sod :: .ref mst :: .int sto :: .ref mwd :: .ref msd :: .int sx_ :: .ref mws :: .int sun :: .ref mfr :: .ref mqu :: .ref miw :: .int sfi :: .int swa :: .long z_22748 :: .ref mim :: .ref mix :: .ref mmd :: []))), (msd, .inl ((cs 0), 133, .inl gsd))] ∧ va_S A s.heap H locs ∧ lv_has ls 12 [(4, .int x_23762), (9, .int v_22745), (8, .int v_22746), (7, .int v_1158), (6, .int v_1159), (5, .int v_22747), (0, .ref m0), (1, .int a), (2, .int b), (3, .int h)]) 174 (fun (v_23770 : Int32) => [.int v_23770, .int v_1159]) ?_ (fun hj_23771 => ?_)
              · rintro v_23770 H locs ls ⟨r_23772, hP, hD, hS, hl⟩
                refine lv_iadd hx hb dX12_dressed_174 ?_
                refine lv_topi (fun x_23773 e_23774 => ?_)
                refine lv_istore (lv' := [(6, .int x_23773), (4, .int x_23762), (9, .int v_22745), (8, .int v_22746), (7, .int v_1158), (5, .int v_22747), (0, .ref m0), (1, .int a), (2, .int b), (3, .int h)]) hx hb dX12_dressed_175 hl (by decide) rfl (fun ls hl => ?_)
                obtain ⟨x_23775, e_23776⟩ : ∃ z : Int32, z = v_1158 + Int32.ofInt 1 := ⟨_, rfl⟩
                have r_23777 : Rg 1 20 x_23775 := Rg.add e_23776 r_21562 (Rg.c (c := Int32.ofInt 1) (k := 1) rfl) (by decide)
                refine lv_iinc (v := x_23775) (lv' := [(7, .int x_23775), (6, .int x_23773), (4, .int x_23762), (9, .int v_22745), (8, .int v_22746), (5, .int v_22747), (0, .ref m0), (1, .int a), (2, .int b), (3, .int h)]) hx hb dX12_dressed_177 hl (k := 4) rfl (e_23776.symm) (by decide) rfl (fun ls hl => ?_)
                refine lv_goto (tgt := 66) hx hb dX12_dressed_180 (by decide) ?_
                exact ih_21557 (x_23775, x_23773, v_22747, x_23762, z_22748) _ _ _ ⟨(Rg.wk (lo2 := 0) (hi2 := 20) r_23777 (by decide)), iv_23704.2, hP, hD, hS, lv_sub hl [0, 1, 5, 2, 6, 7, 8, 9] rfl⟩ (ms_up e_23776 r_21562 (Rg.c (c := Int32.ofInt 1) (k := 1) rfl) (by decide))
              · refine lv_if_eq (tgt := 173) hx hb dX12_dressed_166 (by decide) (fun c_23767 => ?_) (fun c_23767 => ?_)
                · have r_23768 : Rg 0 0 x_23764 := Rg.eq_l c_23767 r_23766 (Rg.c (c := 0) (k := 0) rfl) (by decide)
                  refine lv_iconst (v := 0) hx hb dX12_dressed_173 (by decide) ?_
                  exact hj_23771 0 _ _ _ ⟨(Rg.wk (lo2 := 0) (hi2 := 1) (Rg.c (c := 0) (k := 0) rfl) (by decide)), hP, hD, hS, lv_sub hl [0, 1, 2, 3, 4, 5, 6, 7, 8, 9] rfl⟩
                · have r_23769 : Rg 1 1 x_23764 := Rg.ne c_23767 r_23766 (Rg.c (c := 0) (k := 0) rfl) (by decide)
                  refine lv_iconst (v := 1) hx hb dX12_dressed_169 (by decide) ?_
                  refine lv_goto (tgt := 174) hx hb dX12_dressed_170 (by decide) ?_
                  exact hj_23771 1 _ _ _ ⟨(Rg.wk (lo2 := 0) (hi2 := 1) (Rg.c (c := 1) (k := 1) rfl) (by decide)), hP, hD, hS, lv_sub hl [0, 1, 2, 3, 4, 5, 6, 7, 8, 9] rfl⟩
            · have r_23707 : Rg 0 59 v_22745 := Rg.lt_l (nle_lt c_23705) r_23702 r_24 (by decide)
              refine lv_aload_n hx hb dX12_dressed_87 rfl (lv_at hl 6 rfl) ?_
              refine lv_iload hx hb dX12_dressed_88 (lv_at hl 1 rfl) ?_
              have hPc := va_P.sub (ws' := [(m0, .inr (10, (.ref mtp :: .int sta :: .int sru :: .ref msg :: .ref mln :: .ref mcl :: .ref mcs :: .ref mrd :: .int snx :: .int swr :: .int snu :: .int ste :: .int sma :: .int sde :: .int sli :: .ref mop :: .int sod :: .ref mst :: .int sto :: .ref mwd :: .ref msd :: .int sx_ :: .ref mws :: .int sun :: .ref mfr :: .ref mqu :: .ref miw :: .int sfi :: .int swa :: .long z_22748 :: .ref mim :: .ref mix :: .ref mmd :: []))), (msd, .inl ((cs 0), 133, .inl gsd))]) hP [0, 1] rfl
              refine cl_V (W.runV (As := [.int v_22746]) (rest := []) ⟨hx, hb, hml, hown, hts⟩ (c_M_mayMany l D cs m0 mtp sta sru msg mln mcl mcs mrd snx swr snu ste sma sde sli mop sod mst sto mwd msd sx_ mws sun mfr mqu miw sfi swa z_22748 mim mix mmd gsd v_22746 hsi iv_23704.1) ⟨callB_of 1 hts (gd_C qq_7_201) rfl rfl rfl (hT _ qq_1_9) (hT _ qq_7_198) (by decide +kernel) (rm_R rfl rfl), (hT _ qq_7_200), (hT _ qs_6_10)⟩ (pq_V hPc hK hN (ci := 10) (q0 := 0) rfl rfl) rfl rfl hl.1 rfl (lv_room (Nat.le_of_ble_eq_true rfl)) dX12_dressed_90 ⟨Nat.le_of_ble_eq_true rfl, Nat.le_of_ble_eq_true rfl⟩) ?_
              refine lv_topi (fun x_23778 e_23779 => ?_)
              have r_23780 : Rg 0 72 x_23778 := Rg.of e_23779 ((nI_r (lo := 0) (hi := 72) (by have := cnt_le gsd (cN v_22746) 72; omega) (by have := cnt_le gsd (cN v_22746) 72; omega)))
              refine lv_istore (lv' := [(10, .int x_23778), (9, .int v_22745), (8, .int v_22746), (7, .int v_1158), (6, .int v_1159), (5, .int v_22747), (4, .int v_1161), (0, .ref m0), (1, .int a), (2, .int b), (3, .int h)]) hx hb dX12_dressed_93 hl (by decide) rfl (fun ls hl => ?_)
              refine lv_iload hx hb dX12_dressed_95 (lv_at hl 0 rfl) ?_
              refine w_cut (σ := (Int32) × (Int32) × (Int64)) (fun x9 H locs ls => match x9 with | (v_23802, v_23803, z_23804) => Rg (-1) 65535 v_23802 ∧ (BK v_23802 ∧ D31 z_23804) ∧ va_P D vwCl [(m0, .inr (10, (.ref mtp :: .int sta :: .int sru :: .ref msg :: .ref mln :: .ref mcl :: .ref mcs :: .ref mrd :: .int snx :: .int swr :: .int snu :: .int ste :: .int sma :: .int sde :: .int sli :: .ref mop :: .int sod :: .ref mst :: .int sto :: .ref mwd :: .ref msd :: .int sx_ :: .ref mws :: .int sun :: .ref mfr :: .ref mqu :: .ref miw :: .int sfi :: .int swa :: .long z_23804 :: .ref mim :: .ref mix :: .ref mmd :: []))), (msd, .inl ((cs 0), 133, .inl gsd))] H ∧ va_D A [(m0, .inr (10, (.ref mtp :: .int sta :: .int sru :: .ref msg :: .ref mln :: .ref mcl :: .ref mcs :: .ref mrd :: .int snx :: .int swr :: .int snu :: .int ste :: .int sma :: .int sde :: .int sli :: .ref mop :: .int sod :: .ref mst :: .int sto :: .ref mwd :: .ref msd :: .int sx_ :: .ref mws :: .int sun :: .ref mfr :: .ref mqu :: .ref miw :: .int sfi :: .int swa :: .long z_23804 :: .ref mim :: .ref mix :: .ref mmd :: []))), (msd, .inl ((cs 0), 133, .inl gsd))] ∧ va_S A s.heap H locs ∧ lv_has ls 12 [(8, .int v_23802), (5, .int v_23803), (10, .int x_23778), (9, .int v_22745), (7, .int v_1158), (6, .int v_1159), (4, .int v_1161), (0, .ref m0), (1, .int a), (2, .int b), (3, .int h)]) 138 (fun x9 => match x9 with | (v_23802, v_23803, z_23804) => []) ?_ (fun hj_23805 => ?_)
              · rintro ⟨v_23802, v_23803, z_23804⟩ H locs ls ⟨r_23806, iv_23807, hP, hD, hS, hl⟩
                obtain ⟨x_23808, e_23809⟩ : ∃ z : Int32, z = v_22745 + Int32.ofInt 1 := ⟨_, rfl⟩
                have r_23810 : Rg 1 60 x_23808 := Rg.add e_23809 r_23707 (Rg.c (c := Int32.ofInt 1) (k := 1) rfl) (by decide)
                refine lv_iinc (v := x_23808) (lv' := [(9, .int x_23808), (8, .int v_23802), (5, .int v_23803), (10, .int x_23778), (7, .int v_1158), (6, .int v_1159), (4, .int v_1161), (0, .ref m0), (1, .int a), (2, .int b), (3, .int h)]) hx hb dX12_dressed_138 hl (k := 3) rfl (e_23809.symm) (by decide) rfl (fun ls hl => ?_)
                refine lv_goto (tgt := 81) hx hb dX12_dressed_141 (by decide) ?_
                exact ih_23701 (x_23808, v_23802, v_23803, z_23804) _ _ _ ⟨(Rg.wk (lo2 := 0) (hi2 := 60) r_23810 (by decide)), iv_23807.1.1, ⟨iv_23807.1, iv_23807.2⟩, hP, hD, hS, lv_sub hl [0, 1, 4, 5, 2, 6, 7, 8, 9, 10] rfl⟩ (ms_up e_23809 r_23707 (Rg.c (c := Int32.ofInt 1) (k := 1) rfl) (by decide))
              · refine lv_if_ne (tgt := 103) hx hb dX12_dressed_97 (by decide) (fun c_23781 => ?_) (fun c_23781 => ?_)
                · have r_23782 : Rg 1 72 x_23778 := Rg.ne c_23781 r_23780 (Rg.c (c := 0) (k := 0) rfl) (by decide)
                  refine lv_aload_n hx hb dX12_dressed_103 rfl (lv_at hl 7 rfl) ?_
                  refine lv_iload hx hb dX12_dressed_104 (lv_at hl 2 rfl) ?_
                  refine lv_aload_n hx hb dX12_dressed_106 rfl (lv_at hl 7 rfl) ?_
                  refine lv_iload hx hb dX12_dressed_107 (lv_at hl 0 rfl) ?_
                  have hPc := hP.sub (ws' := [(m0, .inr (10, (.ref mtp :: .int sta :: .int sru :: .ref msg :: .ref mln :: .ref mcl :: .ref mcs :: .ref mrd :: .int snx :: .int swr :: .int snu :: .int ste :: .int sma :: .int sde :: .int sli :: .ref mop :: .int sod :: .ref mst :: .int sto :: .ref mwd :: .ref msd :: .int sx_ :: .ref mws :: .int sun :: .ref mfr :: .ref mqu :: .ref miw :: .int sfi :: .int swa :: .long z_22748 :: .ref mim :: .ref mix :: .ref mmd :: [])))]) [0] rfl
                  have hDc := hD.sub (ws' := [(m0, .inr (10, (.ref mtp :: .int sta :: .int sru :: .ref msg :: .ref mln :: .ref mcl :: .ref mcs :: .ref mrd :: .int snx :: .int swr :: .int snu :: .int ste :: .int sma :: .int sde :: .int sli :: .ref mop :: .int sod :: .ref mst :: .int sto :: .ref mwd :: .ref msd :: .int sx_ :: .ref mws :: .int sun :: .ref mfr :: .ref mqu :: .ref miw :: .int sfi :: .int swa :: .long z_22748 :: .ref mim :: .ref mix :: .ref mmd :: [])))]) [0] (by decide) rfl
                  have hFc := va_free (wc := [(m0, .inr (10, (.ref mtp :: .int sta :: .int sru :: .ref msg :: .ref mln :: .ref mcl :: .ref mcs :: .ref mrd :: .int snx :: .int swr :: .int snu :: .int ste :: .int sma :: .int sde :: .int sli :: .ref mop :: .int sod :: .ref mst :: .int sto :: .ref mwd :: .ref msd :: .int sx_ :: .ref mws :: .int sun :: .ref mfr :: .ref mqu :: .ref miw :: .int sfi :: .int swa :: .long z_22748 :: .ref mim :: .ref mix :: .ref mmd :: [])))]) hD hS hA [0] rfl
                  refine va_calli (va_runV (As := [.int x_23778]) (rest := [.int v_22746, .ref m0]) ⟨hx, hb, hml, hown, hts⟩ (c_M_draw l D cs X H.size m0 mtp sta sru msg mln mcl mcs mrd snx swr snu ste sma sde sli mop sod mst sto mwd msd sx_ mws sun mfr mqu miw sfi swa z_22748 mim mix mmd x_23778 r_23782 iv_23704.2) ⟨callB_of 1 hts (gd_C qq_8_86) rfl rfl rfl (hT _ qq_1_9) (hT _ qq_8_83) (by decide +kernel) (rm_R rfl rfl), (hT _ qq_8_85), (hT _ qs_7_9)⟩ (pr_V hPc hK hDc hN (hR.sub (wo' := []) [] rfl) hS hFc hX hXs (ci := 10) (q0 := 0) rfl rfl) rfl rfl hl.1 rfl (lv_room (Nat.le_of_ble_eq_true rfl)) dX12_dressed_109 ⟨Nat.le_of_ble_eq_true rfl, Nat.le_of_ble_eq_true rfl⟩) hS (fun q _ h => hFc q h) hFc (fun x_23815 u_23811 t_23814 H1 locs ht9 hvm hw_23812 hB_23813 hz1 hk1 hS => ?_)
                  obtain ⟨z_23816, rp_23817, hP1, hD1⟩ := hB_23813
                  rw [ht9] at hP1
                  obtain ⟨hP, hD⟩ := va_join (wr := [(msd, .inl ((cs 0), 133, .inl gsd))]) (w1 := [(m0, .inr (10, (.ref mtp :: .int sta :: .int sru :: .ref msg :: .ref mln :: .ref mcl :: .ref mcs :: .ref mrd :: .int snx :: .int swr :: .int snu :: .int ste :: .int sma :: .int sde :: .int sli :: .ref mop :: .int sod :: .ref mst :: .int sto :: .ref mwd :: .ref msd :: .int sx_ :: .ref mws :: .int sun :: .ref mfr :: .ref mqu :: .ref miw :: .int sfi :: .int swa :: .long z_23816 :: .ref mim :: .ref mix :: .ref mmd :: [])))]) hP hD [0] [1] rfl rfl (by decide) (by decide) hk1 hFc hP1 hD1
                  generalize H1 = H at hP hS ⊢
                  have hP : va_P D vwCl [(msd, .inl ((cs 0), 133, .inl gsd)), (m0, .inr (10, (.ref mtp :: .int sta :: .int sru :: .ref msg :: .ref mln :: .ref mcl :: .ref mcs :: .ref mrd :: .int snx :: .int swr :: .int snu :: .int ste :: .int sma :: .int sde :: .int sli :: .ref mop :: .int sod :: .ref mst :: .int sto :: .ref mwd :: .ref msd :: .int sx_ :: .ref mws :: .int sun :: .ref mfr :: .ref mqu :: .ref miw :: .int sfi :: .int swa :: .long z_23816 :: .ref mim :: .ref mix :: .ref mmd :: [])))] H := hP
                  have hD : va_D A [(msd, .inl ((cs 0), 133, .inl gsd)), (m0, .inr (10, (.ref mtp :: .int sta :: .int sru :: .ref msg :: .ref mln :: .ref mcl :: .ref mcs :: .ref mrd :: .int snx :: .int swr :: .int snu :: .int ste :: .int sma :: .int sde :: .int sli :: .ref mop :: .int sod :: .ref mst :: .int sto :: .ref mwd :: .ref msd :: .int sx_ :: .ref mws :: .int sun :: .ref mfr :: .ref mqu :: .ref miw :: .int sfi :: .int swa :: .long z_23816 :: .ref mim :: .ref mix :: .ref mmd :: [])))] := hD
                  have hP := hP.sub (ws' := [(m0, .inr (10, (.ref mtp :: .int sta :: .int sru :: .ref msg :: .ref mln :: .ref mcl :: .ref mcs :: .ref mrd :: .int snx :: .int swr :: .int snu :: .int ste :: .int sma :: .int sde :: .int sli :: .ref mop :: .int sod :: .ref mst :: .int sto :: .ref mwd :: .ref msd :: .int sx_ :: .ref mws :: .int sun :: .ref mfr :: .ref mqu :: .ref miw :: .int sfi :: .int swa :: .long z_23816 :: .ref mim :: .ref mix :: .ref mmd :: []))), (msd, .inl ((cs 0), 133, .inl gsd))]) [1, 0] rfl
                  have hD := hD.sub (ws' := [(m0, .inr (10, (.ref mtp :: .int sta :: .int sru :: .ref msg :: .ref mln :: .ref mcl :: .ref mcs :: .ref mrd :: .int snx :: .int swr :: .int snu :: .int ste :: .int sma :: .int sde :: .int sli :: .ref mop :: .int sod :: .ref mst :: .int sto :: .ref mwd :: .ref msd :: .int sx_ :: .ref mws :: .int sun :: .ref mfr :: .ref mqu :: .ref miw :: .int sfi :: .int swa :: .long z_23816 :: .ref mim :: .ref mix :: .ref mmd :: []))), (msd, .inl ((cs 0), 133, .inl gsd))]) [1, 0] (by decide) rfl
                  have hPc := va_P.sub (ws' := [(m0, .inr (10, (.ref mtp :: .int sta :: .int sru :: .ref msg :: .ref mln :: .ref mcl :: .ref mcs :: .ref mrd :: .int snx :: .int swr :: .int snu :: .int ste :: .int sma :: .int sde :: .int sli :: .ref mop :: .int sod :: .ref mst :: .int sto :: .ref mwd :: .ref msd :: .int sx_ :: .ref mws :: .int sun :: .ref mfr :: .ref mqu :: .ref miw :: .int sfi :: .int swa :: .long z_23816 :: .ref mim :: .ref mix :: .ref mmd :: []))), (msd, .inl ((cs 0), 133, .inl gsd))]) hP [0, 1] rfl
                  refine cl_P (W.runV (As := [.int v_22746, .int x_23815]) (rest := []) ⟨hx, hb, hml, hown, hts⟩ (c_M_mayAt l D cs m0 mtp sta sru msg mln mcl mcs mrd snx swr snu ste sma sde sli mop sod mst sto mwd msd sx_ mws sun mfr mqu miw sfi swa z_23816 mim mix mmd gsd v_22746 x_23815 hsi iv_23704.1) ⟨callB_of 2 hts (gd_C qq_7_205) rfl rfl rfl (hT _ qq_1_9) (hT _ qq_7_202) (by decide +kernel) (rm_R rfl rfl), (hT _ qq_7_204), (hT _ qs_6_11)⟩ (pq_V hPc hK hN (ci := 10) (q0 := 0) rfl rfl) rfl rfl hl.1 rfl (lv_room (Nat.le_of_ble_eq_true rfl)) dX12_dressed_112 ⟨Nat.le_of_ble_eq_true rfl, Nat.le_of_ble_eq_true rfl⟩) (fun v9 hz_23819 => ?_)
                  obtain ⟨x_23818, rfl, r_23820⟩ := hz_23819
                  refine lv_istore (lv' := [(11, .int x_23818), (10, .int x_23778), (9, .int v_22745), (8, .int v_22746), (7, .int v_1158), (6, .int v_1159), (5, .int v_22747), (4, .int v_1161), (0, .ref m0), (1, .int a), (2, .int b), (3, .int h)]) hx hb dX12_dressed_115 hl (by decide) rfl (fun ls hl => ?_)
                  have ac_23821 : ACT gsd (cN v_22746) x_23818 := act_of (mat_y r_23820 e_23779 hw_23812.1 hw_23812.2)
                  refine lv_iload hx hb dX12_dressed_117 (lv_at hl 6 rfl) ?_
                  refine lv_aload_n hx hb dX12_dressed_119 rfl (lv_at hl 8 rfl) ?_
                  refine lv_iload hx hb dX12_dressed_120 (lv_at hl 0 rfl) ?_
                  have hPc := va_P.sub (ws' := [(m0, .inr (10, (.ref mtp :: .int sta :: .int sru :: .ref msg :: .ref mln :: .ref mcl :: .ref mcs :: .ref mrd :: .int snx :: .int swr :: .int snu :: .int ste :: .int sma :: .int sde :: .int sli :: .ref mop :: .int sod :: .ref mst :: .int sto :: .ref mwd :: .ref msd :: .int sx_ :: .ref mws :: .int sun :: .ref mfr :: .ref mqu :: .ref miw :: .int sfi :: .int swa :: .long z_23816 :: .ref mim :: .ref mix :: .ref mmd :: []))), (msd, .inl ((cs 0), 133, .inl gsd))]) hP [0, 1] rfl
                  refine cl_V (W.runV (As := [.int x_23818]) (rest := [.int v_22747]) ⟨hx, hb, hml, hown, hts⟩ (c_M_timeE l D cs m0 mtp sta sru msg mln mcl mcs mrd snx swr snu ste sma sde sli mop sod mst sto mwd msd sx_ mws sun mfr mqu miw sfi swa z_23816 mim mix mmd gsd x_23818 hsi ac_23821.1 (r_3.2 c_4)) ⟨callB_of 1 hts (gd_C qq_7_140) rfl rfl rfl (hT _ qq_1_9) (hT _ qq_7_137) (by decide +kernel) (rm_R rfl rfl), (hT _ qq_7_139), (hT _ qs_6_0)⟩ (pq_V hPc hK hN (ci := 10) (q0 := 0) rfl rfl) rfl rfl hl.1 rfl (lv_room (Nat.le_of_ble_eq_true rfl)) dX12_dressed_122 ⟨Nat.le_of_ble_eq_true rfl, Nat.le_of_ble_eq_true rfl⟩) ?_
                  refine lv_topi (fun x_23822 e_23823 => ?_)
                  have r_23824 : Rg 1 40 x_23822 := Rg.of e_23823 (tm_rg (hsi) (r_3.2 c_4) (cN_lt (n := 72) ac_23821.1 (by decide)))
                  refine lv_iadd hx hb dX12_dressed_125 ?_
                  refine lv_topi (fun x_23825 e_23826 => ?_)
                  refine lv_istore (lv' := [(5, .int x_23825), (11, .int x_23818), (10, .int x_23778), (9, .int v_22745), (8, .int v_22746), (7, .int v_1158), (6, .int v_1159), (4, .int v_1161), (0, .ref m0), (1, .int a), (2, .int b), (3, .int h)]) hx hb dX12_dressed_126 hl (by decide) rfl (fun ls hl => ?_)
                  refine lv_aload_n hx hb dX12_dressed_128 rfl (lv_at hl 8 rfl) ?_
                  refine lv_iload hx hb dX12_dressed_129 (lv_at hl 4 rfl) ?_
                  refine lv_iload hx hb dX12_dressed_131 (lv_at hl 1 rfl) ?_
                  have hPc := va_P.sub (ws' := [(m0, .inr (10, (.ref mtp :: .int sta :: .int sru :: .ref msg :: .ref mln :: .ref mcl :: .ref mcs :: .ref mrd :: .int snx :: .int swr :: .int snu :: .int ste :: .int sma :: .int sde :: .int sli :: .ref mop :: .int sod :: .ref mst :: .int sto :: .ref mwd :: .ref msd :: .int sx_ :: .ref mws :: .int sun :: .ref mfr :: .ref mqu :: .ref miw :: .int sfi :: .int swa :: .long z_23816 :: .ref mim :: .ref mix :: .ref mmd :: []))), (msd, .inl ((cs 0), 133, .inl gsd))]) hP [0, 1] rfl
                  refine cl_P (W.runV (As := [.int v_22746, .int x_23818]) (rest := []) ⟨hx, hb, hml, hown, hts⟩ (c_M_behind l D cs m0 mtp sta sru msg mln mcl mcs mrd snx swr snu ste sma sde sli mop sod mst sto mwd msd sx_ mws sun mfr mqu miw sfi swa z_23816 mim mix mmd gsd v_22746 x_23818 hsi ac_23821.1 iv_23704.1) ⟨callB_of 2 hts (gd_C qq_7_126) rfl rfl rfl (hT _ qq_1_9) (hT _ qq_7_123) (by decide +kernel) (rm_R rfl rfl), (hT _ qq_7_125), (hT _ qs_5_14)⟩ (pq_V hPc hK hN (ci := 10) (q0 := 0) rfl rfl) rfl rfl hl.1 rfl (lv_room (Nat.le_of_ble_eq_true rfl)) dX12_dressed_133 ⟨Nat.le_of_ble_eq_true rfl, Nat.le_of_ble_eq_true rfl⟩) (fun v9 hz_23828 => ?_)
                  obtain ⟨x_23827, rfl, r_23829⟩ := hz_23828
                  refine lv_istore (lv' := [(8, .int x_23827), (5, .int x_23825), (11, .int x_23818), (10, .int x_23778), (9, .int v_22745), (7, .int v_1158), (6, .int v_1159), (4, .int v_1161), (0, .ref m0), (1, .int a), (2, .int b), (3, .int h)]) hx hb dX12_dressed_136 hl (by decide) rfl (fun ls hl => ?_)
                  exact hj_23805 (x_23827, x_23825, z_23816) _ _ _ ⟨r_23829.1, ⟨(r_23829.2.2 (by rw [r_23829.2.1]; exact (bl_pos hsi (x := blF gsd (cN v_22746) (cN x_23818)) rfl ac_23821.2).2)), rp_23817⟩, hP, hD, hS, lv_sub hl [0, 1, 3, 4, 5, 6, 7, 8, 9, 10, 11] rfl⟩
                · have r_23783 : Rg 0 0 x_23778 := Rg.eq_l c_23781 r_23780 (Rg.c (c := 0) (k := 0) rfl) (by decide)
                  refine lv_goto (tgt := 138) hx hb dX12_dressed_100 (by decide) ?_
                  exact hj_23805 (v_22746, v_22747, z_22748) _ _ _ ⟨(Rg.wk (lo2 := (-1)) (hi2 := 65535) iv_23704.1.1 (by decide)), ⟨iv_23704.1, iv_23704.2⟩, hP, hD, hS, lv_sub hl [2, 5, 0, 1, 3, 4, 6, 7, 8, 9, 10] rfl⟩
        · have r_33 : Rg 0 0 x_27 := Rg.eq_l c_30 r_29.1 (Rg.c (c := 0) (k := 0) rfl) (by decide)
          refine lv_iconst (v := (-1)) hx hb dX12_dressed_43 (by decide) ?_
          refine W.widen (k := 0) (n := 0) (Nat.le_of_ble_eq_true rfl) (Nat.le_of_ble_eq_true rfl) ?_
          have hP9 := hP.sub (ws' := [(m0, .inr (10, (.ref mtp :: .int sta :: .int sru :: .ref msg :: .ref mln :: .ref mcl :: .ref mcs :: .ref mrd :: .int snx :: .int swr :: .int snu :: .int ste :: .int sma :: .int sde :: .int sli :: .ref mop :: .int sod :: .ref mst :: .int sto :: .ref mwd :: .ref msd :: .int sx_ :: .ref mws :: .int sun :: .ref mfr :: .ref mqu :: .ref miw :: .int sfi :: .int swa :: .long sdx :: .ref mim :: .ref mix :: .ref mmd :: []))), (msd, .inl ((cs 0), 133, .inl gsd))]) [0, 1] rfl
          have hD9 := hD.sub (ws' := [(m0, .inr (10, (.ref mtp :: .int sta :: .int sru :: .ref msg :: .ref mln :: .ref mcl :: .ref mcs :: .ref mrd :: .int snx :: .int swr :: .int snu :: .int ste :: .int sma :: .int sde :: .int sli :: .ref mop :: .int sod :: .ref mst :: .int sto :: .ref mwd :: .ref msd :: .int sx_ :: .ref mws :: .int sun :: .ref mfr :: .ref mqu :: .ref miw :: .int sfi :: .int swa :: .long sdx :: .ref mim :: .ref mix :: .ref mmd :: []))), (msd, .inl ((cs 0), 133, .inl gsd))]) [0, 1] (by decide) rfl
          exact W.iret (v := (-1)) hx hb hr (fun t9 ht9 hW9 => ⟨⟨_, (), rfl, trivial, ⟨sdx, by rw [ht9]; exact hP9, hD9⟩⟩, hS.F ht9⟩) hS.2.2 dX12_dressed_44
