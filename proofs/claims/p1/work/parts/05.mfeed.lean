theorem dX12_four_0 : decode cX12_four 0 = .ok (.bipush 24, 2) := by decide +kernel
theorem dX12_four_2 : decode cX12_four 2 = .ok (.istore_n 2, 1) := by decide +kernel
theorem dX12_four_3 : decode cX12_four 3 = .ok (.iload_n 2, 1) := by decide +kernel
theorem dX12_four_4 : decode cX12_four 4 = .ok (.ifCond .lt 32, 3) := by decide +kernel
theorem dX12_four_7 : decode cX12_four 7 = .ok (.aload_n 0, 1) := by decide +kernel
theorem dX12_four_8 : decode cX12_four 8 = .ok (.getfield 7, 3) := by decide +kernel
theorem qq_5_152 : Cond.fieldLink "WrongHoleModel" 7 "WrongHoleModel" "tape" "[B" ∈ TB := mk_tb (ti_5 (List.mem_of_getElem? (i := 152) rfl)) rfl
theorem iq_RX12 (cd : Cond) : ∀ w ∈ u_ws RX12 TX12 33, w ∈ cd :: TB := by
  intro w hw
  obtain ⟨k, hk, rfl⟩ := List.mem_map.mp hw
  have hk := List.mem_range.mp hk
  refine List.mem_cons_of_mem _ ?_
  match k, hk with
  | 0, _ => exact mk_tb (ti_5 (List.mem_of_getElem? (i := 185) rfl)) rfl
  | 1, _ => exact mk_tb (ti_5 (List.mem_of_getElem? (i := 187) rfl)) rfl
  | 2, _ => exact mk_tb (ti_5 (List.mem_of_getElem? (i := 189) rfl)) rfl
  | 3, _ => exact mk_tb (ti_5 (List.mem_of_getElem? (i := 191) rfl)) rfl
  | 4, _ => exact mk_tb (ti_5 (List.mem_of_getElem? (i := 193) rfl)) rfl
  | 5, _ => exact mk_tb (ti_5 (List.mem_of_getElem? (i := 195) rfl)) rfl
  | 6, _ => exact mk_tb (ti_5 (List.mem_of_getElem? (i := 197) rfl)) rfl
  | 7, _ => exact mk_tb (ti_5 (List.mem_of_getElem? (i := 199) rfl)) rfl
  | 8, _ => exact mk_tb (ti_5 (List.mem_of_getElem? (i := 201) rfl)) rfl
  | 9, _ => exact mk_tb (ti_5 (List.mem_of_getElem? (i := 203) rfl)) rfl
  | 10, _ => exact mk_tb (ti_5 (List.mem_of_getElem? (i := 205) rfl)) rfl
  | 11, _ => exact mk_tb (ti_5 (List.mem_of_getElem? (i := 207) rfl)) rfl
  | 12, _ => exact mk_tb (ti_5 (List.mem_of_getElem? (i := 209) rfl)) rfl
  | 13, _ => exact mk_tb (ti_5 (List.mem_of_getElem? (i := 211) rfl)) rfl
  | 14, _ => exact mk_tb (ti_5 (List.mem_of_getElem? (i := 213) rfl)) rfl
  | 15, _ => exact mk_tb (ti_5 (List.mem_of_getElem? (i := 215) rfl)) rfl
  | 16, _ => exact mk_tb (ti_5 (List.mem_of_getElem? (i := 217) rfl)) rfl
  | 17, _ => exact mk_tb (ti_5 (List.mem_of_getElem? (i := 219) rfl)) rfl
  | 18, _ => exact mk_tb (ti_5 (List.mem_of_getElem? (i := 221) rfl)) rfl
  | 19, _ => exact mk_tb (ti_5 (List.mem_of_getElem? (i := 223) rfl)) rfl
  | 20, _ => exact mk_tb (ti_5 (List.mem_of_getElem? (i := 225) rfl)) rfl
  | 21, _ => exact mk_tb (ti_5 (List.mem_of_getElem? (i := 227) rfl)) rfl
  | 22, _ => exact mk_tb (ti_5 (List.mem_of_getElem? (i := 229) rfl)) rfl
  | 23, _ => exact mk_tb (ti_5 (List.mem_of_getElem? (i := 231) rfl)) rfl
  | 24, _ => exact mk_tb (ti_5 (List.mem_of_getElem? (i := 233) rfl)) rfl
  | 25, _ => exact mk_tb (ti_5 (List.mem_of_getElem? (i := 235) rfl)) rfl
  | 26, _ => exact mk_tb (ti_5 (List.mem_of_getElem? (i := 237) rfl)) rfl
  | 27, _ => exact mk_tb (ti_5 (List.mem_of_getElem? (i := 239) rfl)) rfl
  | 28, _ => exact mk_tb (ti_6 (List.mem_of_getElem? (i := 1) rfl)) rfl
  | 29, _ => exact mk_tb (ti_6 (List.mem_of_getElem? (i := 3) rfl)) rfl
  | 30, _ => exact mk_tb (ti_6 (List.mem_of_getElem? (i := 5) rfl)) rfl
  | 31, _ => exact mk_tb (ti_6 (List.mem_of_getElem? (i := 7) rfl)) rfl
  | 32, _ => exact mk_tb (ti_6 (List.mem_of_getElem? (i := 9) rfl)) rfl
  | n + 33, h => exact absurd h (by omega)
theorem dX12_four_11 : decode cX12_four 11 = .ok (.aload_n 0, 1) := by decide +kernel
theorem dX12_four_12 : decode cX12_four 12 = .ok (.getfield 65, 3) := by decide +kernel
theorem qq_5_153 : Cond.fieldLink "WrongHoleModel" 65 "WrongHoleModel" "taped" "I" ∈ TB := mk_tb (ti_5 (List.mem_of_getElem? (i := 153) rfl)) rfl
theorem dX12_four_15 : decode cX12_four 15 = .ok (.iload_n 1, 1) := by decide +kernel
theorem dX12_four_16 : decode cX12_four 16 = .ok (.iload_n 2, 1) := by decide +kernel
theorem dX12_four_17 : decode cX12_four 17 = .ok (.ishr, 1) := by decide +kernel
theorem dX12_four_18 : decode cX12_four 18 = .ok (.i2b, 1) := by decide +kernel
theorem dX12_four_19 : decode cX12_four 19 = .ok (.bastore, 1) := by decide +kernel
theorem dX12_four_20 : decode cX12_four 20 = .ok (.aload_n 0, 1) := by decide +kernel
theorem dX12_four_21 : decode cX12_four 21 = .ok (.dup, 1) := by decide +kernel
theorem dX12_four_22 : decode cX12_four 22 = .ok (.getfield 65, 3) := by decide +kernel
theorem dX12_four_25 : decode cX12_four 25 = .ok (.iconst 1, 1) := by decide +kernel
theorem dX12_four_26 : decode cX12_four 26 = .ok (.iadd, 1) := by decide +kernel
theorem dX12_four_27 : decode cX12_four 27 = .ok (.putfield 65, 3) := by decide +kernel
theorem dX12_four_30 : decode cX12_four 30 = .ok (.iinc 2 (-8), 3) := by decide +kernel
theorem dX12_four_33 : decode cX12_four 33 = .ok (.goto (-30), 3) := by decide +kernel
theorem dX12_four_36 : decode cX12_four 36 = .ok (.return_, 1) := by decide +kernel
set_option maxHeartbeats 4000000 in
set_option maxRecDepth 100000 in
theorem c_four_0 (l : Launch) (D : va_G) (ad : Nat → Nat) (sz : Nat) (m0 : Nat) (mTa : Nat) (mSi : Nat) (mLe : Nat) (mCl : Nat) (mCs : Nat) (mRe : Nat) (mOp : Nat) (mSt : Nat) (mWo : Nat) (mSa : Nat) (mWa : Nat) (mFa : Nat) (mQu : Nat) (mIs : Nat) (mIm : Nat) (mIx : Nat) (mMa : Nat) (kmTa : ClassId) (f : Nat → Int32) (v : Int32)  : Met l yX12_four (Cond.code yX12_four cX12_four 3 none :: TB) (RM 0 0 0) (va_Pc [.ref m0, .int v] (PRE D ad [(m0, .inr (10, [.ref mTa, .int 0, .int 0, .ref mSi, .ref mLe, .ref mCl, .ref mCs, .ref mRe, .int 0, .int 0, .int 0, .int 0, .int 0, .int 0, .int 0, .ref mOp, .int 0, .ref mSt, .int 0, .ref mWo, .ref mSa, .int 0, .ref mWa, .int 0, .ref mFa, .ref mQu, .ref mIs, .int 0, .int 0, .long 0, .ref mIm, .ref mIx, .ref mMa])), (mTa, .inl (kmTa, 400, .inl f))] [(kmTa, .byte)] sz)) (va_Qv (S := Unit) (fun _ => True) (fun _ t => ∃ (g : Nat → Int32), va_P D vwCl [(m0, .inr (10, [.ref mTa, .int 4, .int 0, .ref mSi, .ref mLe, .ref mCl, .ref mCs, .ref mRe, .int 0, .int 0, .int 0, .int 0, .int 0, .int 0, .int 0, .ref mOp, .int 0, .ref mSt, .int 0, .ref mWo, .ref mSa, .int 0, .ref mWa, .int 0, .ref mFa, .ref mQu, .ref mIs, .int 0, .int 0, .long 0, .ref mIm, .ref mIx, .ref mMa])), (mTa, .inl (kmTa, 400, .inl g))] t.heap ∧ va_K D vwCl [(kmTa, .byte)] t ∧ va_D (va_A [(m0, .inr (10, [.ref mTa, .int 0, .int 0, .ref mSi, .ref mLe, .ref mCl, .ref mCs, .ref mRe, .int 0, .int 0, .int 0, .int 0, .int 0, .int 0, .int 0, .ref mOp, .int 0, .ref mSt, .int 0, .ref mWo, .ref mSa, .int 0, .ref mWa, .int 0, .ref mFa, .ref mQu, .ref mIs, .int 0, .int 0, .long 0, .ref mIm, .ref mIx, .ref mMa])), (mTa, .inl (kmTa, 400, .inl f))] sz) [(m0, .inr (10, [.ref mTa, .int 4, .int 0, .ref mSi, .ref mLe, .ref mCl, .ref mCs, .ref mRe, .int 0, .int 0, .int 0, .int 0, .int 0, .int 0, .int 0, .ref mOp, .int 0, .ref mSt, .int 0, .ref mWo, .ref mSa, .int 0, .ref mWa, .int 0, .ref mFa, .ref mQu, .ref mIs, .int 0, .int 0, .long 0, .ref mIm, .ref mIx, .ref mMa])), (mTa, .inl (kmTa, 400, .inl g))]) (va_A [(m0, .inr (10, [.ref mTa, .int 0, .int 0, .ref mSi, .ref mLe, .ref mCl, .ref mCs, .ref mRe, .int 0, .int 0, .int 0, .int 0, .int 0, .int 0, .int 0, .ref mOp, .int 0, .ref mSt, .int 0, .ref mWo, .ref mSa, .int 0, .ref mWa, .int 0, .ref mFa, .ref mQu, .ref mIs, .int 0, .int 0, .long 0, .ref mIm, .ref mIx, .ref mMa])), (mTa, .inl (kmTa, 400, .inl f))] sz)) 0 0 (va_A [(m0, .inr (10, [.ref mTa, .int 0, .int 0, .ref mSi, .ref mLe, .ref mCl, .ref mCs, .ref mRe, .int 0, .int 0, .int 0, .int 0, .int 0, .int 0, .int 0, .ref mOp, .int 0, .ref mSt, .int 0, .ref mWo, .ref mSa, .int 0, .ref mWa, .int 0, .ref mFa, .ref mQu, .ref mIs, .int 0, .int 0, .long 0, .ref mIm, .ref mIx, .ref mMa])), (mTa, .inl (kmTa, 400, .inl f))] sz) := by
  refine MET (y := yX12_four) (cc := cX12_four) (maxL := 3) (ret := none) (d := 0) (mc := 0) (ms := 0) (D := D) (ad := ad) (ws := [(m0, .inr (10, [.ref mTa, .int 0, .int 0, .ref mSi, .ref mLe, .ref mCl, .ref mCs, .ref mRe, .int 0, .int 0, .int 0, .int 0, .int 0, .int 0, .int 0, .ref mOp, .int 0, .ref mSt, .int 0, .ref mWo, .ref mSa, .int 0, .ref mWa, .int 0, .ref mFa, .ref mQu, .ref mIs, .int 0, .int 0, .long 0, .ref mIm, .ref mIx, .ref mMa])), (mTa, .inl (kmTa, 400, .inl f))]) (tys := [(kmTa, .byte)]) (sz := sz) (av := [.ref m0, .int v]) (Qc := fun A => va_Qv (S := Unit) (fun _ => True) (fun _ t => ∃ (g : Nat → Int32), va_P D vwCl [(m0, .inr (10, [.ref mTa, .int 4, .int 0, .ref mSi, .ref mLe, .ref mCl, .ref mCs, .ref mRe, .int 0, .int 0, .int 0, .int 0, .int 0, .int 0, .int 0, .ref mOp, .int 0, .ref mSt, .int 0, .ref mWo, .ref mSa, .int 0, .ref mWa, .int 0, .ref mFa, .ref mQu, .ref mIs, .int 0, .int 0, .long 0, .ref mIm, .ref mIx, .ref mMa])), (mTa, .inl (kmTa, 400, .inl g))] t.heap ∧ va_K D vwCl [(kmTa, .byte)] t ∧ va_D A [(m0, .inr (10, [.ref mTa, .int 4, .int 0, .ref mSi, .ref mLe, .ref mCl, .ref mCs, .ref mRe, .int 0, .int 0, .int 0, .int 0, .int 0, .int 0, .int 0, .ref mOp, .int 0, .ref mSt, .int 0, .ref mWo, .ref mSa, .int 0, .ref mWa, .int 0, .ref mFa, .ref mQu, .ref mIs, .int 0, .int 0, .long 0, .ref mIm, .ref mIx, .ref mMa])), (mTa, .inl (kmTa, 400, .inl g))]) A) (fr := fun A => A) (by decide) (Nat.le_of_ble_eq_true rfl) ?_
  intro p e s m below meth c ls A H hHe hx hb hr hml hown hts hlocks hnm hP hK hD hA hS hN hl
  have hown : s.vm.findClass "WrongHoleModel" = some m.cls := hown
  have hT : ∀ w ∈ TB, w.before ([.ref m0, .int v] : List Value).toArray s = true := fun w h => hts w (List.mem_cons_of_mem _ h)
  have hl : lv_has ls 3 [(0, .ref m0), (1, .int v)] := hl
  have hP : va_P D vwCl [(m0, .inr (10, [.ref mTa, .int 0, .int 0, .ref mSi, .ref mLe, .ref mCl, .ref mCs, .ref mRe, .int 0, .int 0, .int 0, .int 0, .int 0, .int 0, .int 0, .ref mOp, .int 0, .ref mSt, .int 0, .ref mWo, .ref mSa, .int 0, .ref mWa, .int 0, .ref mFa, .ref mQu, .ref mIs, .int 0, .int 0, .long 0, .ref mIm, .ref mIx, .ref mMa])), (mTa, .inl (kmTa, 400, .inl f))] H := hP
  refine lv_bipush (v := 24) hx hb dX12_four_0 (by decide) ?_
  refine lv_istore_n (lv' := [(2, .int 24), (0, .ref m0), (1, .int v)]) hx hb dX12_four_2 rfl hl (by decide) rfl (fun ls hl => ?_)
  refine lv_iload_n hx hb dX12_four_3 rfl (lv_at hl 0 rfl) ?_
  refine lv_if_lt (tgt := 36) hx hb dX12_four_4 (by decide) (fun c_1 => absurd c_1 (by decide)) (fun _ => ?_)
  refine lv_aload_n hx hb dX12_four_7 rfl (lv_at hl 1 rfl) ?_
  refine va_get (D := D) (ci := 10) (v := .ref mTa) (C := "WrongHoleModel") (T := TX12) (N := 33) hx hb hts (iq_RX12 _) hown hK hP 0 rfl rfl 0 (by decide) (hT _ qq_5_152) (fun _ h9 => h9) rfl dX12_four_8 ?_
  refine lv_aload_n hx hb dX12_four_11 rfl (lv_at hl 1 rfl) ?_
  refine va_get (D := D) (ci := 10) (v := .int 0) (C := "WrongHoleModel") (T := TX12) (N := 33) hx hb hts (iq_RX12 _) hown hK hP 0 rfl rfl 1 (by decide) (hT _ qq_5_153) (fun _ h9 => h9) rfl dX12_four_12 ?_
  refine lv_iload_n hx hb dX12_four_15 rfl (lv_at hl 2 rfl) ?_
  refine lv_iload_n hx hb dX12_four_16 rfl (lv_at hl 0 rfl) ?_
  refine lv_ishr hx hb dX12_four_17 ?_
  refine lv_topi (fun x_2 e_3 => ?_)
  obtain ⟨x_4, e_5⟩ : ∃ z : Int32, (Int32.toInt8 x_2).toInt32 = z := ⟨_, rfl⟩
  refine lv_i2b (v := x_4) hx hb dX12_four_18 e_5 ?_
  refine va_bast hx hb hK hP hD hS 1 0 rfl rfl (vi_c rfl) dX12_four_19 (fun H locs hP hD hS => ?_)
  have hP : va_P D vwCl [(m0, .inr (10, [.ref mTa, .int 0, .int 0, .ref mSi, .ref mLe, .ref mCl, .ref mCs, .ref mRe, .int 0, .int 0, .int 0, .int 0, .int 0, .int 0, .int 0, .ref mOp, .int 0, .ref mSt, .int 0, .ref mWo, .ref mSa, .int 0, .ref mWa, .int 0, .ref mFa, .ref mQu, .ref mIs, .int 0, .int 0, .long 0, .ref mIm, .ref mIx, .ref mMa])), (mTa, .inl (kmTa, 400, .inl (upd f 0 (vp_nar .byte x_4))))] H := hP
  have hD : va_D A [(m0, .inr (10, [.ref mTa, .int 0, .int 0, .ref mSi, .ref mLe, .ref mCl, .ref mCs, .ref mRe, .int 0, .int 0, .int 0, .int 0, .int 0, .int 0, .int 0, .ref mOp, .int 0, .ref mSt, .int 0, .ref mWo, .ref mSa, .int 0, .ref mWa, .int 0, .ref mFa, .ref mQu, .ref mIs, .int 0, .int 0, .long 0, .ref mIm, .ref mIx, .ref mMa])), (mTa, .inl (kmTa, 400, .inl (upd f 0 (vp_nar .byte x_4))))] := hD
  generalize upd f 0 (vp_nar .byte x_4) = g_6 at hP hD
  refine lv_aload_n hx hb dX12_four_20 rfl (lv_at hl 1 rfl) ?_
  refine lv_dup hx hb dX12_four_21 rfl ?_
  refine va_get (D := D) (ci := 10) (v := .int 0) (C := "WrongHoleModel") (T := TX12) (N := 33) hx hb hts (iq_RX12 _) hown hK hP 0 rfl rfl 1 (by decide) (hT _ qq_5_153) (fun _ h9 => h9) rfl dX12_four_22 ?_
  refine lv_iconst (v := 1) hx hb dX12_four_25 (by decide) ?_
  refine lv_iadd hx hb dX12_four_26 ?_
  refine tc_i 1 (by decide) ?_
  refine va_put (D := D) (ci := 10) (v := .int 1) (ty := .int) (C := "WrongHoleModel") (T := TX12) (N := 33) hx hb hts (iq_RX12 _) tyX12 tyX12_ok nmX12 hown hK hP hD hS 0 rfl rfl 1 (by decide) (hT _ qq_5_153) (fun _ h9 => h9) rfl (by decide +kernel) rfl rfl (Nat.le_of_ble_eq_true rfl) dX12_four_27 (fun H locs hP hD hS => ?_)
  have hP : va_P D vwCl [(m0, .inr (10, [.ref mTa, .int 1, .int 0, .ref mSi, .ref mLe, .ref mCl, .ref mCs, .ref mRe, .int 0, .int 0, .int 0, .int 0, .int 0, .int 0, .int 0, .ref mOp, .int 0, .ref mSt, .int 0, .ref mWo, .ref mSa, .int 0, .ref mWa, .int 0, .ref mFa, .ref mQu, .ref mIs, .int 0, .int 0, .long 0, .ref mIm, .ref mIx, .ref mMa])), (mTa, .inl (kmTa, 400, .inl g_6))] H := hP
  have hD : va_D A [(m0, .inr (10, [.ref mTa, .int 1, .int 0, .ref mSi, .ref mLe, .ref mCl, .ref mCs, .ref mRe, .int 0, .int 0, .int 0, .int 0, .int 0, .int 0, .int 0, .ref mOp, .int 0, .ref mSt, .int 0, .ref mWo, .ref mSa, .int 0, .ref mWa, .int 0, .ref mFa, .ref mQu, .ref mIs, .int 0, .int 0, .long 0, .ref mIm, .ref mIx, .ref mMa])), (mTa, .inl (kmTa, 400, .inl g_6))] := hD
  refine lv_iinc (v := 16) (lv' := [(2, .int 16), (0, .ref m0), (1, .int v)]) hx hb dX12_four_30 hl (k := 0) rfl (by decide) (by decide) rfl (fun ls hl => ?_)
  refine lv_goto (tgt := 3) hx hb dX12_four_33 (by decide) ?_
  refine lv_iload_n hx hb dX12_four_3 rfl (lv_at hl 0 rfl) ?_
  refine lv_if_lt (tgt := 36) hx hb dX12_four_4 (by decide) (fun c_8 => absurd c_8 (by decide)) (fun _ => ?_)
  refine lv_aload_n hx hb dX12_four_7 rfl (lv_at hl 1 rfl) ?_
  refine va_get (D := D) (ci := 10) (v := .ref mTa) (C := "WrongHoleModel") (T := TX12) (N := 33) hx hb hts (iq_RX12 _) hown hK hP 0 rfl rfl 0 (by decide) (hT _ qq_5_152) (fun _ h9 => h9) rfl dX12_four_8 ?_
  refine lv_aload_n hx hb dX12_four_11 rfl (lv_at hl 1 rfl) ?_
  refine va_get (D := D) (ci := 10) (v := .int 1) (C := "WrongHoleModel") (T := TX12) (N := 33) hx hb hts (iq_RX12 _) hown hK hP 0 rfl rfl 1 (by decide) (hT _ qq_5_153) (fun _ h9 => h9) rfl dX12_four_12 ?_
  refine lv_iload_n hx hb dX12_four_15 rfl (lv_at hl 2 rfl) ?_
  refine lv_iload_n hx hb dX12_four_16 rfl (lv_at hl 0 rfl) ?_
  refine lv_ishr hx hb dX12_four_17 ?_
  refine lv_topi (fun x_9 e_10 => ?_)
  obtain ⟨x_11, e_12⟩ : ∃ z : Int32, (Int32.toInt8 x_9).toInt32 = z := ⟨_, rfl⟩
  refine lv_i2b (v := x_11) hx hb dX12_four_18 e_12 ?_
  refine va_bast hx hb hK hP hD hS 1 0 rfl rfl (vi_c rfl) dX12_four_19 (fun H locs hP hD hS => ?_)
  have hP : va_P D vwCl [(m0, .inr (10, [.ref mTa, .int 1, .int 0, .ref mSi, .ref mLe, .ref mCl, .ref mCs, .ref mRe, .int 0, .int 0, .int 0, .int 0, .int 0, .int 0, .int 0, .ref mOp, .int 0, .ref mSt, .int 0, .ref mWo, .ref mSa, .int 0, .ref mWa, .int 0, .ref mFa, .ref mQu, .ref mIs, .int 0, .int 0, .long 0, .ref mIm, .ref mIx, .ref mMa])), (mTa, .inl (kmTa, 400, .inl (upd g_6 1 (vp_nar .byte x_11))))] H := hP
  have hD : va_D A [(m0, .inr (10, [.ref mTa, .int 1, .int 0, .ref mSi, .ref mLe, .ref mCl, .ref mCs, .ref mRe, .int 0, .int 0, .int 0, .int 0, .int 0, .int 0, .int 0, .ref mOp, .int 0, .ref mSt, .int 0, .ref mWo, .ref mSa, .int 0, .ref mWa, .int 0, .ref mFa, .ref mQu, .ref mIs, .int 0, .int 0, .long 0, .ref mIm, .ref mIx, .ref mMa])), (mTa, .inl (kmTa, 400, .inl (upd g_6 1 (vp_nar .byte x_11))))] := hD
  generalize upd g_6 1 (vp_nar .byte x_11) = g_13 at hP hD
  refine lv_aload_n hx hb dX12_four_20 rfl (lv_at hl 1 rfl) ?_
  refine lv_dup hx hb dX12_four_21 rfl ?_
  refine va_get (D := D) (ci := 10) (v := .int 1) (C := "WrongHoleModel") (T := TX12) (N := 33) hx hb hts (iq_RX12 _) hown hK hP 0 rfl rfl 1 (by decide) (hT _ qq_5_153) (fun _ h9 => h9) rfl dX12_four_22 ?_
  refine lv_iconst (v := 1) hx hb dX12_four_25 (by decide) ?_
  refine lv_iadd hx hb dX12_four_26 ?_
  refine tc_i 2 (by decide) ?_
  refine va_put (D := D) (ci := 10) (v := .int 2) (ty := .int) (C := "WrongHoleModel") (T := TX12) (N := 33) hx hb hts (iq_RX12 _) tyX12 tyX12_ok nmX12 hown hK hP hD hS 0 rfl rfl 1 (by decide) (hT _ qq_5_153) (fun _ h9 => h9) rfl (by decide +kernel) rfl rfl (Nat.le_of_ble_eq_true rfl) dX12_four_27 (fun H locs hP hD hS => ?_)
  have hP : va_P D vwCl [(m0, .inr (10, [.ref mTa, .int 2, .int 0, .ref mSi, .ref mLe, .ref mCl, .ref mCs, .ref mRe, .int 0, .int 0, .int 0, .int 0, .int 0, .int 0, .int 0, .ref mOp, .int 0, .ref mSt, .int 0, .ref mWo, .ref mSa, .int 0, .ref mWa, .int 0, .ref mFa, .ref mQu, .ref mIs, .int 0, .int 0, .long 0, .ref mIm, .ref mIx, .ref mMa])), (mTa, .inl (kmTa, 400, .inl g_13))] H := hP
  have hD : va_D A [(m0, .inr (10, [.ref mTa, .int 2, .int 0, .ref mSi, .ref mLe, .ref mCl, .ref mCs, .ref mRe, .int 0, .int 0, .int 0, .int 0, .int 0, .int 0, .int 0, .ref mOp, .int 0, .ref mSt, .int 0, .ref mWo, .ref mSa, .int 0, .ref mWa, .int 0, .ref mFa, .ref mQu, .ref mIs, .int 0, .int 0, .long 0, .ref mIm, .ref mIx, .ref mMa])), (mTa, .inl (kmTa, 400, .inl g_13))] := hD
  refine lv_iinc (v := 8) (lv' := [(2, .int 8), (0, .ref m0), (1, .int v)]) hx hb dX12_four_30 hl (k := 0) rfl (by decide) (by decide) rfl (fun ls hl => ?_)
  refine lv_goto (tgt := 3) hx hb dX12_four_33 (by decide) ?_
  refine lv_iload_n hx hb dX12_four_3 rfl (lv_at hl 0 rfl) ?_
  refine lv_if_lt (tgt := 36) hx hb dX12_four_4 (by decide) (fun c_15 => absurd c_15 (by decide)) (fun _ => ?_)
  refine lv_aload_n hx hb dX12_four_7 rfl (lv_at hl 1 rfl) ?_
  refine va_get (D := D) (ci := 10) (v := .ref mTa) (C := "WrongHoleModel") (T := TX12) (N := 33) hx hb hts (iq_RX12 _) hown hK hP 0 rfl rfl 0 (by decide) (hT _ qq_5_152) (fun _ h9 => h9) rfl dX12_four_8 ?_
  refine lv_aload_n hx hb dX12_four_11 rfl (lv_at hl 1 rfl) ?_
  refine va_get (D := D) (ci := 10) (v := .int 2) (C := "WrongHoleModel") (T := TX12) (N := 33) hx hb hts (iq_RX12 _) hown hK hP 0 rfl rfl 1 (by decide) (hT _ qq_5_153) (fun _ h9 => h9) rfl dX12_four_12 ?_
  refine lv_iload_n hx hb dX12_four_15 rfl (lv_at hl 2 rfl) ?_
  refine lv_iload_n hx hb dX12_four_16 rfl (lv_at hl 0 rfl) ?_
  refine lv_ishr hx hb dX12_four_17 ?_
  refine lv_topi (fun x_16 e_17 => ?_)
  obtain ⟨x_18, e_19⟩ : ∃ z : Int32, (Int32.toInt8 x_16).toInt32 = z := ⟨_, rfl⟩
  refine lv_i2b (v := x_18) hx hb dX12_four_18 e_19 ?_
  refine va_bast hx hb hK hP hD hS 1 0 rfl rfl (vi_c rfl) dX12_four_19 (fun H locs hP hD hS => ?_)
  have hP : va_P D vwCl [(m0, .inr (10, [.ref mTa, .int 2, .int 0, .ref mSi, .ref mLe, .ref mCl, .ref mCs, .ref mRe, .int 0, .int 0, .int 0, .int 0, .int 0, .int 0, .int 0, .ref mOp, .int 0, .ref mSt, .int 0, .ref mWo, .ref mSa, .int 0, .ref mWa, .int 0, .ref mFa, .ref mQu, .ref mIs, .int 0, .int 0, .long 0, .ref mIm, .ref mIx, .ref mMa])), (mTa, .inl (kmTa, 400, .inl (upd g_13 2 (vp_nar .byte x_18))))] H := hP
  have hD : va_D A [(m0, .inr (10, [.ref mTa, .int 2, .int 0, .ref mSi, .ref mLe, .ref mCl, .ref mCs, .ref mRe, .int 0, .int 0, .int 0, .int 0, .int 0, .int 0, .int 0, .ref mOp, .int 0, .ref mSt, .int 0, .ref mWo, .ref mSa, .int 0, .ref mWa, .int 0, .ref mFa, .ref mQu, .ref mIs, .int 0, .int 0, .long 0, .ref mIm, .ref mIx, .ref mMa])), (mTa, .inl (kmTa, 400, .inl (upd g_13 2 (vp_nar .byte x_18))))] := hD
  generalize upd g_13 2 (vp_nar .byte x_18) = g_20 at hP hD
  refine lv_aload_n hx hb dX12_four_20 rfl (lv_at hl 1 rfl) ?_
  refine lv_dup hx hb dX12_four_21 rfl ?_
  refine va_get (D := D) (ci := 10) (v := .int 2) (C := "WrongHoleModel") (T := TX12) (N := 33) hx hb hts (iq_RX12 _) hown hK hP 0 rfl rfl 1 (by decide) (hT _ qq_5_153) (fun _ h9 => h9) rfl dX12_four_22 ?_
  refine lv_iconst (v := 1) hx hb dX12_four_25 (by decide) ?_
  refine lv_iadd hx hb dX12_four_26 ?_
  refine tc_i 3 (by decide) ?_
  refine va_put (D := D) (ci := 10) (v := .int 3) (ty := .int) (C := "WrongHoleModel") (T := TX12) (N := 33) hx hb hts (iq_RX12 _) tyX12 tyX12_ok nmX12 hown hK hP hD hS 0 rfl rfl 1 (by decide) (hT _ qq_5_153) (fun _ h9 => h9) rfl (by decide +kernel) rfl rfl (Nat.le_of_ble_eq_true rfl) dX12_four_27 (fun H locs hP hD hS => ?_)
  have hP : va_P D vwCl [(m0, .inr (10, [.ref mTa, .int 3, .int 0, .ref mSi, .ref mLe, .ref mCl, .ref mCs, .ref mRe, .int 0, .int 0, .int 0, .int 0, .int 0, .int 0, .int 0, .ref mOp, .int 0, .ref mSt, .int 0, .ref mWo, .ref mSa, .int 0, .ref mWa, .int 0, .ref mFa, .ref mQu, .ref mIs, .int 0, .int 0, .long 0, .ref mIm, .ref mIx, .ref mMa])), (mTa, .inl (kmTa, 400, .inl g_20))] H := hP
  have hD : va_D A [(m0, .inr (10, [.ref mTa, .int 3, .int 0, .ref mSi, .ref mLe, .ref mCl, .ref mCs, .ref mRe, .int 0, .int 0, .int 0, .int 0, .int 0, .int 0, .int 0, .ref mOp, .int 0, .ref mSt, .int 0, .ref mWo, .ref mSa, .int 0, .ref mWa, .int 0, .ref mFa, .ref mQu, .ref mIs, .int 0, .int 0, .long 0, .ref mIm, .ref mIx, .ref mMa])), (mTa, .inl (kmTa, 400, .inl g_20))] := hD
  refine lv_iinc (v := 0) (lv' := [(2, .int 0), (0, .ref m0), (1, .int v)]) hx hb dX12_four_30 hl (k := 0) rfl (by decide) (by decide) rfl (fun ls hl => ?_)
  refine lv_goto (tgt := 3) hx hb dX12_four_33 (by decide) ?_
  refine lv_iload_n hx hb dX12_four_3 rfl (lv_at hl 0 rfl) ?_
  refine lv_if_lt (tgt := 36) hx hb dX12_four_4 (by decide) (fun c_22 => absurd c_22 (by decide)) (fun _ => ?_)
  refine lv_aload_n hx hb dX12_four_7 rfl (lv_at hl 1 rfl) ?_
  refine va_get (D := D) (ci := 10) (v := .ref mTa) (C := "WrongHoleModel") (T := TX12) (N := 33) hx hb hts (iq_RX12 _) hown hK hP 0 rfl rfl 0 (by decide) (hT _ qq_5_152) (fun _ h9 => h9) rfl dX12_four_8 ?_
  refine lv_aload_n hx hb dX12_four_11 rfl (lv_at hl 1 rfl) ?_
  refine va_get (D := D) (ci := 10) (v := .int 3) (C := "WrongHoleModel") (T := TX12) (N := 33) hx hb hts (iq_RX12 _) hown hK hP 0 rfl rfl 1 (by decide) (hT _ qq_5_153) (fun _ h9 => h9) rfl dX12_four_12 ?_
  refine lv_iload_n hx hb dX12_four_15 rfl (lv_at hl 2 rfl) ?_
  refine lv_iload_n hx hb dX12_four_16 rfl (lv_at hl 0 rfl) ?_
  refine lv_ishr hx hb dX12_four_17 ?_
  refine lv_topi (fun x_23 e_24 => ?_)
  obtain ⟨x_25, e_26⟩ : ∃ z : Int32, (Int32.toInt8 x_23).toInt32 = z := ⟨_, rfl⟩
  refine lv_i2b (v := x_25) hx hb dX12_four_18 e_26 ?_
  refine va_bast hx hb hK hP hD hS 1 0 rfl rfl (vi_c rfl) dX12_four_19 (fun H locs hP hD hS => ?_)
  have hP : va_P D vwCl [(m0, .inr (10, [.ref mTa, .int 3, .int 0, .ref mSi, .ref mLe, .ref mCl, .ref mCs, .ref mRe, .int 0, .int 0, .int 0, .int 0, .int 0, .int 0, .int 0, .ref mOp, .int 0, .ref mSt, .int 0, .ref mWo, .ref mSa, .int 0, .ref mWa, .int 0, .ref mFa, .ref mQu, .ref mIs, .int 0, .int 0, .long 0, .ref mIm, .ref mIx, .ref mMa])), (mTa, .inl (kmTa, 400, .inl (upd g_20 3 (vp_nar .byte x_25))))] H := hP
  have hD : va_D A [(m0, .inr (10, [.ref mTa, .int 3, .int 0, .ref mSi, .ref mLe, .ref mCl, .ref mCs, .ref mRe, .int 0, .int 0, .int 0, .int 0, .int 0, .int 0, .int 0, .ref mOp, .int 0, .ref mSt, .int 0, .ref mWo, .ref mSa, .int 0, .ref mWa, .int 0, .ref mFa, .ref mQu, .ref mIs, .int 0, .int 0, .long 0, .ref mIm, .ref mIx, .ref mMa])), (mTa, .inl (kmTa, 400, .inl (upd g_20 3 (vp_nar .byte x_25))))] := hD
  generalize upd g_20 3 (vp_nar .byte x_25) = g_27 at hP hD
  refine lv_aload_n hx hb dX12_four_20 rfl (lv_at hl 1 rfl) ?_
  refine lv_dup hx hb dX12_four_21 rfl ?_
  refine va_get (D := D) (ci := 10) (v := .int 3) (C := "WrongHoleModel") (T := TX12) (N := 33) hx hb hts (iq_RX12 _) hown hK hP 0 rfl rfl 1 (by decide) (hT _ qq_5_153) (fun _ h9 => h9) rfl dX12_four_22 ?_
  refine lv_iconst (v := 1) hx hb dX12_four_25 (by decide) ?_
  refine lv_iadd hx hb dX12_four_26 ?_
  refine tc_i 4 (by decide) ?_
  refine va_put (D := D) (ci := 10) (v := .int 4) (ty := .int) (C := "WrongHoleModel") (T := TX12) (N := 33) hx hb hts (iq_RX12 _) tyX12 tyX12_ok nmX12 hown hK hP hD hS 0 rfl rfl 1 (by decide) (hT _ qq_5_153) (fun _ h9 => h9) rfl (by decide +kernel) rfl rfl (Nat.le_of_ble_eq_true rfl) dX12_four_27 (fun H locs hP hD hS => ?_)
  have hP : va_P D vwCl [(m0, .inr (10, [.ref mTa, .int 4, .int 0, .ref mSi, .ref mLe, .ref mCl, .ref mCs, .ref mRe, .int 0, .int 0, .int 0, .int 0, .int 0, .int 0, .int 0, .ref mOp, .int 0, .ref mSt, .int 0, .ref mWo, .ref mSa, .int 0, .ref mWa, .int 0, .ref mFa, .ref mQu, .ref mIs, .int 0, .int 0, .long 0, .ref mIm, .ref mIx, .ref mMa])), (mTa, .inl (kmTa, 400, .inl g_27))] H := hP
  have hD : va_D A [(m0, .inr (10, [.ref mTa, .int 4, .int 0, .ref mSi, .ref mLe, .ref mCl, .ref mCs, .ref mRe, .int 0, .int 0, .int 0, .int 0, .int 0, .int 0, .int 0, .ref mOp, .int 0, .ref mSt, .int 0, .ref mWo, .ref mSa, .int 0, .ref mWa, .int 0, .ref mFa, .ref mQu, .ref mIs, .int 0, .int 0, .long 0, .ref mIm, .ref mIx, .ref mMa])), (mTa, .inl (kmTa, 400, .inl g_27))] := hD
  refine lv_iinc (v := (-8)) (lv' := [(2, .int (-8)), (0, .ref m0), (1, .int v)]) hx hb dX12_four_30 hl (k := 0) rfl (by decide) (by decide) rfl (fun ls hl => ?_)
  refine lv_goto (tgt := 3) hx hb dX12_four_33 (by decide) ?_
  refine lv_iload_n hx hb dX12_four_3 rfl (lv_at hl 0 rfl) ?_
  refine lv_if_lt (tgt := 36) hx hb dX12_four_4 (by decide) (fun _ => ?_) (fun c_29 => absurd (by decide) c_29)
  refine W.widen (k := 0) (n := 0) (Nat.le_of_ble_eq_true rfl) (Nat.le_of_ble_eq_true rfl) ?_
  have hP9 := hP.sub (ws' := [(m0, .inr (10, [.ref mTa, .int 4, .int 0, .ref mSi, .ref mLe, .ref mCl, .ref mCs, .ref mRe, .int 0, .int 0, .int 0, .int 0, .int 0, .int 0, .int 0, .ref mOp, .int 0, .ref mSt, .int 0, .ref mWo, .ref mSa, .int 0, .ref mWa, .int 0, .ref mFa, .ref mQu, .ref mIs, .int 0, .int 0, .long 0, .ref mIm, .ref mIx, .ref mMa])), (mTa, .inl (kmTa, 400, .inl g_27))]) [0, 1] rfl
  have hD9 := hD.sub (ws' := [(m0, .inr (10, [.ref mTa, .int 4, .int 0, .ref mSi, .ref mLe, .ref mCl, .ref mCs, .ref mRe, .int 0, .int 0, .int 0, .int 0, .int 0, .int 0, .int 0, .ref mOp, .int 0, .ref mSt, .int 0, .ref mWo, .ref mSa, .int 0, .ref mWa, .int 0, .ref mFa, .ref mQu, .ref mIs, .int 0, .int 0, .long 0, .ref mIm, .ref mIx, .ref mMa])), (mTa, .inl (kmTa, 400, .inl g_27))]) [0, 1] (by decide) rfl
  have hK9 := hK.sub (tys' := [(kmTa, .byte)]) [0] rfl
  exact W.vret hx hb hr (fun t9 ht9 hW9 => ⟨⟨(), rfl, trivial, ⟨g_27, by rw [ht9]; exact hP9, va_K.moved hW9.alike hK9, hD9⟩⟩, hS.F ht9⟩) hS.2.2 dX12_four_36
set_option maxHeartbeats 4000000 in
set_option maxRecDepth 100000 in
theorem c_four_4 (l : Launch) (D : va_G) (ad : Nat → Nat) (sz : Nat) (m0 : Nat) (mTa : Nat) (mSi : Nat) (mLe : Nat) (mCl : Nat) (mCs : Nat) (mRe : Nat) (mOp : Nat) (mSt : Nat) (mWo : Nat) (mSa : Nat) (mWa : Nat) (mFa : Nat) (mQu : Nat) (mIs : Nat) (mIm : Nat) (mIx : Nat) (mMa : Nat) (kmTa : ClassId) (f : Nat → Int32) (v : Int32)  : Met l yX12_four (Cond.code yX12_four cX12_four 3 none :: TB) (RM 0 0 0) (va_Pc [.ref m0, .int v] (PRE D ad [(m0, .inr (10, [.ref mTa, .int 4, .int 0, .ref mSi, .ref mLe, .ref mCl, .ref mCs, .ref mRe, .int 0, .int 0, .int 0, .int 0, .int 0, .int 0, .int 0, .ref mOp, .int 0, .ref mSt, .int 0, .ref mWo, .ref mSa, .int 0, .ref mWa, .int 0, .ref mFa, .ref mQu, .ref mIs, .int 0, .int 0, .long 0, .ref mIm, .ref mIx, .ref mMa])), (mTa, .inl (kmTa, 400, .inl f))] [(kmTa, .byte)] sz)) (va_Qv (S := Unit) (fun _ => True) (fun _ t => ∃ (g : Nat → Int32), va_P D vwCl [(m0, .inr (10, [.ref mTa, .int 8, .int 0, .ref mSi, .ref mLe, .ref mCl, .ref mCs, .ref mRe, .int 0, .int 0, .int 0, .int 0, .int 0, .int 0, .int 0, .ref mOp, .int 0, .ref mSt, .int 0, .ref mWo, .ref mSa, .int 0, .ref mWa, .int 0, .ref mFa, .ref mQu, .ref mIs, .int 0, .int 0, .long 0, .ref mIm, .ref mIx, .ref mMa])), (mTa, .inl (kmTa, 400, .inl g))] t.heap ∧ va_K D vwCl [(kmTa, .byte)] t ∧ va_D (va_A [(m0, .inr (10, [.ref mTa, .int 4, .int 0, .ref mSi, .ref mLe, .ref mCl, .ref mCs, .ref mRe, .int 0, .int 0, .int 0, .int 0, .int 0, .int 0, .int 0, .ref mOp, .int 0, .ref mSt, .int 0, .ref mWo, .ref mSa, .int 0, .ref mWa, .int 0, .ref mFa, .ref mQu, .ref mIs, .int 0, .int 0, .long 0, .ref mIm, .ref mIx, .ref mMa])), (mTa, .inl (kmTa, 400, .inl f))] sz) [(m0, .inr (10, [.ref mTa, .int 8, .int 0, .ref mSi, .ref mLe, .ref mCl, .ref mCs, .ref mRe, .int 0, .int 0, .int 0, .int 0, .int 0, .int 0, .int 0, .ref mOp, .int 0, .ref mSt, .int 0, .ref mWo, .ref mSa, .int 0, .ref mWa, .int 0, .ref mFa, .ref mQu, .ref mIs, .int 0, .int 0, .long 0, .ref mIm, .ref mIx, .ref mMa])), (mTa, .inl (kmTa, 400, .inl g))]) (va_A [(m0, .inr (10, [.ref mTa, .int 4, .int 0, .ref mSi, .ref mLe, .ref mCl, .ref mCs, .ref mRe, .int 0, .int 0, .int 0, .int 0, .int 0, .int 0, .int 0, .ref mOp, .int 0, .ref mSt, .int 0, .ref mWo, .ref mSa, .int 0, .ref mWa, .int 0, .ref mFa, .ref mQu, .ref mIs, .int 0, .int 0, .long 0, .ref mIm, .ref mIx, .ref mMa])), (mTa, .inl (kmTa, 400, .inl f))] sz)) 0 0 (va_A [(m0, .inr (10, [.ref mTa, .int 4, .int 0, .ref mSi, .ref mLe, .ref mCl, .ref mCs, .ref mRe, .int 0, .int 0, .int 0, .int 0, .int 0, .int 0, .int 0, .ref mOp, .int 0, .ref mSt, .int 0, .ref mWo, .ref mSa, .int 0, .ref mWa, .int 0, .ref mFa, .ref mQu, .ref mIs, .int 0, .int 0, .long 0, .ref mIm, .ref mIx, .ref mMa])), (mTa, .inl (kmTa, 400, .inl f))] sz) := by
  refine MET (y := yX12_four) (cc := cX12_four) (maxL := 3) (ret := none) (d := 0) (mc := 0) (ms := 0) (D := D) (ad := ad) (ws := [(m0, .inr (10, [.ref mTa, .int 4, .int 0, .ref mSi, .ref mLe, .ref mCl, .ref mCs, .ref mRe, .int 0, .int 0, .int 0, .int 0, .int 0, .int 0, .int 0, .ref mOp, .int 0, .ref mSt, .int 0, .ref mWo, .ref mSa, .int 0, .ref mWa, .int 0, .ref mFa, .ref mQu, .ref mIs, .int 0, .int 0, .long 0, .ref mIm, .ref mIx, .ref mMa])), (mTa, .inl (kmTa, 400, .inl f))]) (tys := [(kmTa, .byte)]) (sz := sz) (av := [.ref m0, .int v]) (Qc := fun A => va_Qv (S := Unit) (fun _ => True) (fun _ t => ∃ (g : Nat → Int32), va_P D vwCl [(m0, .inr (10, [.ref mTa, .int 8, .int 0, .ref mSi, .ref mLe, .ref mCl, .ref mCs, .ref mRe, .int 0, .int 0, .int 0, .int 0, .int 0, .int 0, .int 0, .ref mOp, .int 0, .ref mSt, .int 0, .ref mWo, .ref mSa, .int 0, .ref mWa, .int 0, .ref mFa, .ref mQu, .ref mIs, .int 0, .int 0, .long 0, .ref mIm, .ref mIx, .ref mMa])), (mTa, .inl (kmTa, 400, .inl g))] t.heap ∧ va_K D vwCl [(kmTa, .byte)] t ∧ va_D A [(m0, .inr (10, [.ref mTa, .int 8, .int 0, .ref mSi, .ref mLe, .ref mCl, .ref mCs, .ref mRe, .int 0, .int 0, .int 0, .int 0, .int 0, .int 0, .int 0, .ref mOp, .int 0, .ref mSt, .int 0, .ref mWo, .ref mSa, .int 0, .ref mWa, .int 0, .ref mFa, .ref mQu, .ref mIs, .int 0, .int 0, .long 0, .ref mIm, .ref mIx, .ref mMa])), (mTa, .inl (kmTa, 400, .inl g))]) A) (fr := fun A => A) (by decide) (Nat.le_of_ble_eq_true rfl) ?_
  intro p e s m below meth c ls A H hHe hx hb hr hml hown hts hlocks hnm hP hK hD hA hS hN hl
  have hown : s.vm.findClass "WrongHoleModel" = some m.cls := hown
  have hT : ∀ w ∈ TB, w.before ([.ref m0, .int v] : List Value).toArray s = true := fun w h => hts w (List.mem_cons_of_mem _ h)
  have hl : lv_has ls 3 [(0, .ref m0), (1, .int v)] := hl
  have hP : va_P D vwCl [(m0, .inr (10, [.ref mTa, .int 4, .int 0, .ref mSi, .ref mLe, .ref mCl, .ref mCs, .ref mRe, .int 0, .int 0, .int 0, .int 0, .int 0, .int 0, .int 0, .ref mOp, .int 0, .ref mSt, .int 0, .ref mWo, .ref mSa, .int 0, .ref mWa, .int 0, .ref mFa, .ref mQu, .ref mIs, .int 0, .int 0, .long 0, .ref mIm, .ref mIx, .ref mMa])), (mTa, .inl (kmTa, 400, .inl f))] H := hP
  refine lv_bipush (v := 24) hx hb dX12_four_0 (by decide) ?_
  refine lv_istore_n (lv' := [(2, .int 24), (0, .ref m0), (1, .int v)]) hx hb dX12_four_2 rfl hl (by decide) rfl (fun ls hl => ?_)
  refine lv_iload_n hx hb dX12_four_3 rfl (lv_at hl 0 rfl) ?_
  refine lv_if_lt (tgt := 36) hx hb dX12_four_4 (by decide) (fun c_1 => absurd c_1 (by decide)) (fun _ => ?_)
  refine lv_aload_n hx hb dX12_four_7 rfl (lv_at hl 1 rfl) ?_
  refine va_get (D := D) (ci := 10) (v := .ref mTa) (C := "WrongHoleModel") (T := TX12) (N := 33) hx hb hts (iq_RX12 _) hown hK hP 0 rfl rfl 0 (by decide) (hT _ qq_5_152) (fun _ h9 => h9) rfl dX12_four_8 ?_
  refine lv_aload_n hx hb dX12_four_11 rfl (lv_at hl 1 rfl) ?_
  refine va_get (D := D) (ci := 10) (v := .int 4) (C := "WrongHoleModel") (T := TX12) (N := 33) hx hb hts (iq_RX12 _) hown hK hP 0 rfl rfl 1 (by decide) (hT _ qq_5_153) (fun _ h9 => h9) rfl dX12_four_12 ?_
  refine lv_iload_n hx hb dX12_four_15 rfl (lv_at hl 2 rfl) ?_
  refine lv_iload_n hx hb dX12_four_16 rfl (lv_at hl 0 rfl) ?_
  refine lv_ishr hx hb dX12_four_17 ?_
  refine lv_topi (fun x_2 e_3 => ?_)
  obtain ⟨x_4, e_5⟩ : ∃ z : Int32, (Int32.toInt8 x_2).toInt32 = z := ⟨_, rfl⟩
  refine lv_i2b (v := x_4) hx hb dX12_four_18 e_5 ?_
  refine va_bast hx hb hK hP hD hS 1 0 rfl rfl (vi_c rfl) dX12_four_19 (fun H locs hP hD hS => ?_)
  have hP : va_P D vwCl [(m0, .inr (10, [.ref mTa, .int 4, .int 0, .ref mSi, .ref mLe, .ref mCl, .ref mCs, .ref mRe, .int 0, .int 0, .int 0, .int 0, .int 0, .int 0, .int 0, .ref mOp, .int 0, .ref mSt, .int 0, .ref mWo, .ref mSa, .int 0, .ref mWa, .int 0, .ref mFa, .ref mQu, .ref mIs, .int 0, .int 0, .long 0, .ref mIm, .ref mIx, .ref mMa])), (mTa, .inl (kmTa, 400, .inl (upd f 4 (vp_nar .byte x_4))))] H := hP
  have hD : va_D A [(m0, .inr (10, [.ref mTa, .int 4, .int 0, .ref mSi, .ref mLe, .ref mCl, .ref mCs, .ref mRe, .int 0, .int 0, .int 0, .int 0, .int 0, .int 0, .int 0, .ref mOp, .int 0, .ref mSt, .int 0, .ref mWo, .ref mSa, .int 0, .ref mWa, .int 0, .ref mFa, .ref mQu, .ref mIs, .int 0, .int 0, .long 0, .ref mIm, .ref mIx, .ref mMa])), (mTa, .inl (kmTa, 400, .inl (upd f 4 (vp_nar .byte x_4))))] := hD
  generalize upd f 4 (vp_nar .byte x_4) = g_6 at hP hD
  refine lv_aload_n hx hb dX12_four_20 rfl (lv_at hl 1 rfl) ?_
  refine lv_dup hx hb dX12_four_21 rfl ?_
  refine va_get (D := D) (ci := 10) (v := .int 4) (C := "WrongHoleModel") (T := TX12) (N := 33) hx hb hts (iq_RX12 _) hown hK hP 0 rfl rfl 1 (by decide) (hT _ qq_5_153) (fun _ h9 => h9) rfl dX12_four_22 ?_
  refine lv_iconst (v := 1) hx hb dX12_four_25 (by decide) ?_
  refine lv_iadd hx hb dX12_four_26 ?_
  refine tc_i 5 (by decide) ?_
  refine va_put (D := D) (ci := 10) (v := .int 5) (ty := .int) (C := "WrongHoleModel") (T := TX12) (N := 33) hx hb hts (iq_RX12 _) tyX12 tyX12_ok nmX12 hown hK hP hD hS 0 rfl rfl 1 (by decide) (hT _ qq_5_153) (fun _ h9 => h9) rfl (by decide +kernel) rfl rfl (Nat.le_of_ble_eq_true rfl) dX12_four_27 (fun H locs hP hD hS => ?_)
  have hP : va_P D vwCl [(m0, .inr (10, [.ref mTa, .int 5, .int 0, .ref mSi, .ref mLe, .ref mCl, .ref mCs, .ref mRe, .int 0, .int 0, .int 0, .int 0, .int 0, .int 0, .int 0, .ref mOp, .int 0, .ref mSt, .int 0, .ref mWo, .ref mSa, .int 0, .ref mWa, .int 0, .ref mFa, .ref mQu, .ref mIs, .int 0, .int 0, .long 0, .ref mIm, .ref mIx, .ref mMa])), (mTa, .inl (kmTa, 400, .inl g_6))] H := hP
  have hD : va_D A [(m0, .inr (10, [.ref mTa, .int 5, .int 0, .ref mSi, .ref mLe, .ref mCl, .ref mCs, .ref mRe, .int 0, .int 0, .int 0, .int 0, .int 0, .int 0, .int 0, .ref mOp, .int 0, .ref mSt, .int 0, .ref mWo, .ref mSa, .int 0, .ref mWa, .int 0, .ref mFa, .ref mQu, .ref mIs, .int 0, .int 0, .long 0, .ref mIm, .ref mIx, .ref mMa])), (mTa, .inl (kmTa, 400, .inl g_6))] := hD
  refine lv_iinc (v := 16) (lv' := [(2, .int 16), (0, .ref m0), (1, .int v)]) hx hb dX12_four_30 hl (k := 0) rfl (by decide) (by decide) rfl (fun ls hl => ?_)
  refine lv_goto (tgt := 3) hx hb dX12_four_33 (by decide) ?_
  refine lv_iload_n hx hb dX12_four_3 rfl (lv_at hl 0 rfl) ?_
  refine lv_if_lt (tgt := 36) hx hb dX12_four_4 (by decide) (fun c_8 => absurd c_8 (by decide)) (fun _ => ?_)
  refine lv_aload_n hx hb dX12_four_7 rfl (lv_at hl 1 rfl) ?_
  refine va_get (D := D) (ci := 10) (v := .ref mTa) (C := "WrongHoleModel") (T := TX12) (N := 33) hx hb hts (iq_RX12 _) hown hK hP 0 rfl rfl 0 (by decide) (hT _ qq_5_152) (fun _ h9 => h9) rfl dX12_four_8 ?_
  refine lv_aload_n hx hb dX12_four_11 rfl (lv_at hl 1 rfl) ?_
  refine va_get (D := D) (ci := 10) (v := .int 5) (C := "WrongHoleModel") (T := TX12) (N := 33) hx hb hts (iq_RX12 _) hown hK hP 0 rfl rfl 1 (by decide) (hT _ qq_5_153) (fun _ h9 => h9) rfl dX12_four_12 ?_
  refine lv_iload_n hx hb dX12_four_15 rfl (lv_at hl 2 rfl) ?_
  refine lv_iload_n hx hb dX12_four_16 rfl (lv_at hl 0 rfl) ?_
  refine lv_ishr hx hb dX12_four_17 ?_
  refine lv_topi (fun x_9 e_10 => ?_)
  obtain ⟨x_11, e_12⟩ : ∃ z : Int32, (Int32.toInt8 x_9).toInt32 = z := ⟨_, rfl⟩
  refine lv_i2b (v := x_11) hx hb dX12_four_18 e_12 ?_
  refine va_bast hx hb hK hP hD hS 1 0 rfl rfl (vi_c rfl) dX12_four_19 (fun H locs hP hD hS => ?_)
  have hP : va_P D vwCl [(m0, .inr (10, [.ref mTa, .int 5, .int 0, .ref mSi, .ref mLe, .ref mCl, .ref mCs, .ref mRe, .int 0, .int 0, .int 0, .int 0, .int 0, .int 0, .int 0, .ref mOp, .int 0, .ref mSt, .int 0, .ref mWo, .ref mSa, .int 0, .ref mWa, .int 0, .ref mFa, .ref mQu, .ref mIs, .int 0, .int 0, .long 0, .ref mIm, .ref mIx, .ref mMa])), (mTa, .inl (kmTa, 400, .inl (upd g_6 5 (vp_nar .byte x_11))))] H := hP
  have hD : va_D A [(m0, .inr (10, [.ref mTa, .int 5, .int 0, .ref mSi, .ref mLe, .ref mCl, .ref mCs, .ref mRe, .int 0, .int 0, .int 0, .int 0, .int 0, .int 0, .int 0, .ref mOp, .int 0, .ref mSt, .int 0, .ref mWo, .ref mSa, .int 0, .ref mWa, .int 0, .ref mFa, .ref mQu, .ref mIs, .int 0, .int 0, .long 0, .ref mIm, .ref mIx, .ref mMa])), (mTa, .inl (kmTa, 400, .inl (upd g_6 5 (vp_nar .byte x_11))))] := hD
  generalize upd g_6 5 (vp_nar .byte x_11) = g_13 at hP hD
  refine lv_aload_n hx hb dX12_four_20 rfl (lv_at hl 1 rfl) ?_
  refine lv_dup hx hb dX12_four_21 rfl ?_
  refine va_get (D := D) (ci := 10) (v := .int 5) (C := "WrongHoleModel") (T := TX12) (N := 33) hx hb hts (iq_RX12 _) hown hK hP 0 rfl rfl 1 (by decide) (hT _ qq_5_153) (fun _ h9 => h9) rfl dX12_four_22 ?_
  refine lv_iconst (v := 1) hx hb dX12_four_25 (by decide) ?_
  refine lv_iadd hx hb dX12_four_26 ?_
  refine tc_i 6 (by decide) ?_
  refine va_put (D := D) (ci := 10) (v := .int 6) (ty := .int) (C := "WrongHoleModel") (T := TX12) (N := 33) hx hb hts (iq_RX12 _) tyX12 tyX12_ok nmX12 hown hK hP hD hS 0 rfl rfl 1 (by decide) (hT _ qq_5_153) (fun _ h9 => h9) rfl (by decide +kernel) rfl rfl (Nat.le_of_ble_eq_true rfl) dX12_four_27 (fun H locs hP hD hS => ?_)
  have hP : va_P D vwCl [(m0, .inr (10, [.ref mTa, .int 6, .int 0, .ref mSi, .ref mLe, .ref mCl, .ref mCs, .ref mRe, .int 0, .int 0, .int 0, .int 0, .int 0, .int 0, .int 0, .ref mOp, .int 0, .ref mSt, .int 0, .ref mWo, .ref mSa, .int 0, .ref mWa, .int 0, .ref mFa, .ref mQu, .ref mIs, .int 0, .int 0, .long 0, .ref mIm, .ref mIx, .ref mMa])), (mTa, .inl (kmTa, 400, .inl g_13))] H := hP
  have hD : va_D A [(m0, .inr (10, [.ref mTa, .int 6, .int 0, .ref mSi, .ref mLe, .ref mCl, .ref mCs, .ref mRe, .int 0, .int 0, .int 0, .int 0, .int 0, .int 0, .int 0, .ref mOp, .int 0, .ref mSt, .int 0, .ref mWo, .ref mSa, .int 0, .ref mWa, .int 0, .ref mFa, .ref mQu, .ref mIs, .int 0, .int 0, .long 0, .ref mIm, .ref mIx, .ref mMa])), (mTa, .inl (kmTa, 400, .inl g_13))] := hD
  refine lv_iinc (v := 8) (lv' := [(2, .int 8), (0, .ref m0), (1, .int v)]) hx hb dX12_four_30 hl (k := 0) rfl (by decide) (by decide) rfl (fun ls hl => ?_)
  refine lv_goto (tgt := 3) hx hb dX12_four_33 (by decide) ?_
  refine lv_iload_n hx hb dX12_four_3 rfl (lv_at hl 0 rfl) ?_
  refine lv_if_lt (tgt := 36) hx hb dX12_four_4 (by decide) (fun c_15 => absurd c_15 (by decide)) (fun _ => ?_)
  refine lv_aload_n hx hb dX12_four_7 rfl (lv_at hl 1 rfl) ?_
  refine va_get (D := D) (ci := 10) (v := .ref mTa) (C := "WrongHoleModel") (T := TX12) (N := 33) hx hb hts (iq_RX12 _) hown hK hP 0 rfl rfl 0 (by decide) (hT _ qq_5_152) (fun _ h9 => h9) rfl dX12_four_8 ?_
  refine lv_aload_n hx hb dX12_four_11 rfl (lv_at hl 1 rfl) ?_
  refine va_get (D := D) (ci := 10) (v := .int 6) (C := "WrongHoleModel") (T := TX12) (N := 33) hx hb hts (iq_RX12 _) hown hK hP 0 rfl rfl 1 (by decide) (hT _ qq_5_153) (fun _ h9 => h9) rfl dX12_four_12 ?_
  refine lv_iload_n hx hb dX12_four_15 rfl (lv_at hl 2 rfl) ?_
  refine lv_iload_n hx hb dX12_four_16 rfl (lv_at hl 0 rfl) ?_
  refine lv_ishr hx hb dX12_four_17 ?_
  refine lv_topi (fun x_16 e_17 => ?_)
  obtain ⟨x_18, e_19⟩ : ∃ z : Int32, (Int32.toInt8 x_16).toInt32 = z := ⟨_, rfl⟩
  refine lv_i2b (v := x_18) hx hb dX12_four_18 e_19 ?_
  refine va_bast hx hb hK hP hD hS 1 0 rfl rfl (vi_c rfl) dX12_four_19 (fun H locs hP hD hS => ?_)
  have hP : va_P D vwCl [(m0, .inr (10, [.ref mTa, .int 6, .int 0, .ref mSi, .ref mLe, .ref mCl, .ref mCs, .ref mRe, .int 0, .int 0, .int 0, .int 0, .int 0, .int 0, .int 0, .ref mOp, .int 0, .ref mSt, .int 0, .ref mWo, .ref mSa, .int 0, .ref mWa, .int 0, .ref mFa, .ref mQu, .ref mIs, .int 0, .int 0, .long 0, .ref mIm, .ref mIx, .ref mMa])), (mTa, .inl (kmTa, 400, .inl (upd g_13 6 (vp_nar .byte x_18))))] H := hP
  have hD : va_D A [(m0, .inr (10, [.ref mTa, .int 6, .int 0, .ref mSi, .ref mLe, .ref mCl, .ref mCs, .ref mRe, .int 0, .int 0, .int 0, .int 0, .int 0, .int 0, .int 0, .ref mOp, .int 0, .ref mSt, .int 0, .ref mWo, .ref mSa, .int 0, .ref mWa, .int 0, .ref mFa, .ref mQu, .ref mIs, .int 0, .int 0, .long 0, .ref mIm, .ref mIx, .ref mMa])), (mTa, .inl (kmTa, 400, .inl (upd g_13 6 (vp_nar .byte x_18))))] := hD
  generalize upd g_13 6 (vp_nar .byte x_18) = g_20 at hP hD
  refine lv_aload_n hx hb dX12_four_20 rfl (lv_at hl 1 rfl) ?_
  refine lv_dup hx hb dX12_four_21 rfl ?_
  refine va_get (D := D) (ci := 10) (v := .int 6) (C := "WrongHoleModel") (T := TX12) (N := 33) hx hb hts (iq_RX12 _) hown hK hP 0 rfl rfl 1 (by decide) (hT _ qq_5_153) (fun _ h9 => h9) rfl dX12_four_22 ?_
  refine lv_iconst (v := 1) hx hb dX12_four_25 (by decide) ?_
  refine lv_iadd hx hb dX12_four_26 ?_
  refine tc_i 7 (by decide) ?_
  refine va_put (D := D) (ci := 10) (v := .int 7) (ty := .int) (C := "WrongHoleModel") (T := TX12) (N := 33) hx hb hts (iq_RX12 _) tyX12 tyX12_ok nmX12 hown hK hP hD hS 0 rfl rfl 1 (by decide) (hT _ qq_5_153) (fun _ h9 => h9) rfl (by decide +kernel) rfl rfl (Nat.le_of_ble_eq_true rfl) dX12_four_27 (fun H locs hP hD hS => ?_)
  have hP : va_P D vwCl [(m0, .inr (10, [.ref mTa, .int 7, .int 0, .ref mSi, .ref mLe, .ref mCl, .ref mCs, .ref mRe, .int 0, .int 0, .int 0, .int 0, .int 0, .int 0, .int 0, .ref mOp, .int 0, .ref mSt, .int 0, .ref mWo, .ref mSa, .int 0, .ref mWa, .int 0, .ref mFa, .ref mQu, .ref mIs, .int 0, .int 0, .long 0, .ref mIm, .ref mIx, .ref mMa])), (mTa, .inl (kmTa, 400, .inl g_20))] H := hP
  have hD : va_D A [(m0, .inr (10, [.ref mTa, .int 7, .int 0, .ref mSi, .ref mLe, .ref mCl, .ref mCs, .ref mRe, .int 0, .int 0, .int 0, .int 0, .int 0, .int 0, .int 0, .ref mOp, .int 0, .ref mSt, .int 0, .ref mWo, .ref mSa, .int 0, .ref mWa, .int 0, .ref mFa, .ref mQu, .ref mIs, .int 0, .int 0, .long 0, .ref mIm, .ref mIx, .ref mMa])), (mTa, .inl (kmTa, 400, .inl g_20))] := hD
  refine lv_iinc (v := 0) (lv' := [(2, .int 0), (0, .ref m0), (1, .int v)]) hx hb dX12_four_30 hl (k := 0) rfl (by decide) (by decide) rfl (fun ls hl => ?_)
  refine lv_goto (tgt := 3) hx hb dX12_four_33 (by decide) ?_
  refine lv_iload_n hx hb dX12_four_3 rfl (lv_at hl 0 rfl) ?_
  refine lv_if_lt (tgt := 36) hx hb dX12_four_4 (by decide) (fun c_22 => absurd c_22 (by decide)) (fun _ => ?_)
  refine lv_aload_n hx hb dX12_four_7 rfl (lv_at hl 1 rfl) ?_
  refine va_get (D := D) (ci := 10) (v := .ref mTa) (C := "WrongHoleModel") (T := TX12) (N := 33) hx hb hts (iq_RX12 _) hown hK hP 0 rfl rfl 0 (by decide) (hT _ qq_5_152) (fun _ h9 => h9) rfl dX12_four_8 ?_
  refine lv_aload_n hx hb dX12_four_11 rfl (lv_at hl 1 rfl) ?_
  refine va_get (D := D) (ci := 10) (v := .int 7) (C := "WrongHoleModel") (T := TX12) (N := 33) hx hb hts (iq_RX12 _) hown hK hP 0 rfl rfl 1 (by decide) (hT _ qq_5_153) (fun _ h9 => h9) rfl dX12_four_12 ?_
  refine lv_iload_n hx hb dX12_four_15 rfl (lv_at hl 2 rfl) ?_
  refine lv_iload_n hx hb dX12_four_16 rfl (lv_at hl 0 rfl) ?_
  refine lv_ishr hx hb dX12_four_17 ?_
  refine lv_topi (fun x_23 e_24 => ?_)
  obtain ⟨x_25, e_26⟩ : ∃ z : Int32, (Int32.toInt8 x_23).toInt32 = z := ⟨_, rfl⟩
  refine lv_i2b (v := x_25) hx hb dX12_four_18 e_26 ?_
  refine va_bast hx hb hK hP hD hS 1 0 rfl rfl (vi_c rfl) dX12_four_19 (fun H locs hP hD hS => ?_)
  have hP : va_P D vwCl [(m0, .inr (10, [.ref mTa, .int 7, .int 0, .ref mSi, .ref mLe, .ref mCl, .ref mCs, .ref mRe, .int 0, .int 0, .int 0, .int 0, .int 0, .int 0, .int 0, .ref mOp, .int 0, .ref mSt, .int 0, .ref mWo, .ref mSa, .int 0, .ref mWa, .int 0, .ref mFa, .ref mQu, .ref mIs, .int 0, .int 0, .long 0, .ref mIm, .ref mIx, .ref mMa])), (mTa, .inl (kmTa, 400, .inl (upd g_20 7 (vp_nar .byte x_25))))] H := hP
  have hD : va_D A [(m0, .inr (10, [.ref mTa, .int 7, .int 0, .ref mSi, .ref mLe, .ref mCl, .ref mCs, .ref mRe, .int 0, .int 0, .int 0, .int 0, .int 0, .int 0, .int 0, .ref mOp, .int 0, .ref mSt, .int 0, .ref mWo, .ref mSa, .int 0, .ref mWa, .int 0, .ref mFa, .ref mQu, .ref mIs, .int 0, .int 0, .long 0, .ref mIm, .ref mIx, .ref mMa])), (mTa, .inl (kmTa, 400, .inl (upd g_20 7 (vp_nar .byte x_25))))] := hD
  generalize upd g_20 7 (vp_nar .byte x_25) = g_27 at hP hD
  refine lv_aload_n hx hb dX12_four_20 rfl (lv_at hl 1 rfl) ?_
  refine lv_dup hx hb dX12_four_21 rfl ?_
  refine va_get (D := D) (ci := 10) (v := .int 7) (C := "WrongHoleModel") (T := TX12) (N := 33) hx hb hts (iq_RX12 _) hown hK hP 0 rfl rfl 1 (by decide) (hT _ qq_5_153) (fun _ h9 => h9) rfl dX12_four_22 ?_
  refine lv_iconst (v := 1) hx hb dX12_four_25 (by decide) ?_
  refine lv_iadd hx hb dX12_four_26 ?_
  refine tc_i 8 (by decide) ?_
  refine va_put (D := D) (ci := 10) (v := .int 8) (ty := .int) (C := "WrongHoleModel") (T := TX12) (N := 33) hx hb hts (iq_RX12 _) tyX12 tyX12_ok nmX12 hown hK hP hD hS 0 rfl rfl 1 (by decide) (hT _ qq_5_153) (fun _ h9 => h9) rfl (by decide +kernel) rfl rfl (Nat.le_of_ble_eq_true rfl) dX12_four_27 (fun H locs hP hD hS => ?_)
  have hP : va_P D vwCl [(m0, .inr (10, [.ref mTa, .int 8, .int 0, .ref mSi, .ref mLe, .ref mCl, .ref mCs, .ref mRe, .int 0, .int 0, .int 0, .int 0, .int 0, .int 0, .int 0, .ref mOp, .int 0, .ref mSt, .int 0, .ref mWo, .ref mSa, .int 0, .ref mWa, .int 0, .ref mFa, .ref mQu, .ref mIs, .int 0, .int 0, .long 0, .ref mIm, .ref mIx, .ref mMa])), (mTa, .inl (kmTa, 400, .inl g_27))] H := hP
  have hD : va_D A [(m0, .inr (10, [.ref mTa, .int 8, .int 0, .ref mSi, .ref mLe, .ref mCl, .ref mCs, .ref mRe, .int 0, .int 0, .int 0, .int 0, .int 0, .int 0, .int 0, .ref mOp, .int 0, .ref mSt, .int 0, .ref mWo, .ref mSa, .int 0, .ref mWa, .int 0, .ref mFa, .ref mQu, .ref mIs, .int 0, .int 0, .long 0, .ref mIm, .ref mIx, .ref mMa])), (mTa, .inl (kmTa, 400, .inl g_27))] := hD
  refine lv_iinc (v := (-8)) (lv' := [(2, .int (-8)), (0, .ref m0), (1, .int v)]) hx hb dX12_four_30 hl (k := 0) rfl (by decide) (by decide) rfl (fun ls hl => ?_)
  refine lv_goto (tgt := 3) hx hb dX12_four_33 (by decide) ?_
  refine lv_iload_n hx hb dX12_four_3 rfl (lv_at hl 0 rfl) ?_
  refine lv_if_lt (tgt := 36) hx hb dX12_four_4 (by decide) (fun _ => ?_) (fun c_29 => absurd (by decide) c_29)
  refine W.widen (k := 0) (n := 0) (Nat.le_of_ble_eq_true rfl) (Nat.le_of_ble_eq_true rfl) ?_
  have hP9 := hP.sub (ws' := [(m0, .inr (10, [.ref mTa, .int 8, .int 0, .ref mSi, .ref mLe, .ref mCl, .ref mCs, .ref mRe, .int 0, .int 0, .int 0, .int 0, .int 0, .int 0, .int 0, .ref mOp, .int 0, .ref mSt, .int 0, .ref mWo, .ref mSa, .int 0, .ref mWa, .int 0, .ref mFa, .ref mQu, .ref mIs, .int 0, .int 0, .long 0, .ref mIm, .ref mIx, .ref mMa])), (mTa, .inl (kmTa, 400, .inl g_27))]) [0, 1] rfl
  have hD9 := hD.sub (ws' := [(m0, .inr (10, [.ref mTa, .int 8, .int 0, .ref mSi, .ref mLe, .ref mCl, .ref mCs, .ref mRe, .int 0, .int 0, .int 0, .int 0, .int 0, .int 0, .int 0, .ref mOp, .int 0, .ref mSt, .int 0, .ref mWo, .ref mSa, .int 0, .ref mWa, .int 0, .ref mFa, .ref mQu, .ref mIs, .int 0, .int 0, .long 0, .ref mIm, .ref mIx, .ref mMa])), (mTa, .inl (kmTa, 400, .inl g_27))]) [0, 1] (by decide) rfl
  have hK9 := hK.sub (tys' := [(kmTa, .byte)]) [0] rfl
  exact W.vret hx hb hr (fun t9 ht9 hW9 => ⟨⟨(), rfl, trivial, ⟨g_27, by rw [ht9]; exact hP9, va_K.moved hW9.alike hK9, hD9⟩⟩, hS.F ht9⟩) hS.2.2 dX12_four_36
set_option maxHeartbeats 4000000 in
set_option maxRecDepth 100000 in
theorem c_four_8 (l : Launch) (D : va_G) (ad : Nat → Nat) (sz : Nat) (m0 : Nat) (mTa : Nat) (mSi : Nat) (mLe : Nat) (mCl : Nat) (mCs : Nat) (mRe : Nat) (mOp : Nat) (mSt : Nat) (mWo : Nat) (mSa : Nat) (mWa : Nat) (mFa : Nat) (mQu : Nat) (mIs : Nat) (mIm : Nat) (mIx : Nat) (mMa : Nat) (kmTa : ClassId) (f : Nat → Int32) (v : Int32)  : Met l yX12_four (Cond.code yX12_four cX12_four 3 none :: TB) (RM 0 0 0) (va_Pc [.ref m0, .int v] (PRE D ad [(m0, .inr (10, [.ref mTa, .int 8, .int 0, .ref mSi, .ref mLe, .ref mCl, .ref mCs, .ref mRe, .int 0, .int 0, .int 0, .int 0, .int 0, .int 0, .int 0, .ref mOp, .int 0, .ref mSt, .int 0, .ref mWo, .ref mSa, .int 0, .ref mWa, .int 0, .ref mFa, .ref mQu, .ref mIs, .int 0, .int 0, .long 0, .ref mIm, .ref mIx, .ref mMa])), (mTa, .inl (kmTa, 400, .inl f))] [(kmTa, .byte)] sz)) (va_Qv (S := Unit) (fun _ => True) (fun _ t => ∃ (g : Nat → Int32), va_P D vwCl [(m0, .inr (10, [.ref mTa, .int 12, .int 0, .ref mSi, .ref mLe, .ref mCl, .ref mCs, .ref mRe, .int 0, .int 0, .int 0, .int 0, .int 0, .int 0, .int 0, .ref mOp, .int 0, .ref mSt, .int 0, .ref mWo, .ref mSa, .int 0, .ref mWa, .int 0, .ref mFa, .ref mQu, .ref mIs, .int 0, .int 0, .long 0, .ref mIm, .ref mIx, .ref mMa])), (mTa, .inl (kmTa, 400, .inl g))] t.heap ∧ va_K D vwCl [(kmTa, .byte)] t ∧ va_D (va_A [(m0, .inr (10, [.ref mTa, .int 8, .int 0, .ref mSi, .ref mLe, .ref mCl, .ref mCs, .ref mRe, .int 0, .int 0, .int 0, .int 0, .int 0, .int 0, .int 0, .ref mOp, .int 0, .ref mSt, .int 0, .ref mWo, .ref mSa, .int 0, .ref mWa, .int 0, .ref mFa, .ref mQu, .ref mIs, .int 0, .int 0, .long 0, .ref mIm, .ref mIx, .ref mMa])), (mTa, .inl (kmTa, 400, .inl f))] sz) [(m0, .inr (10, [.ref mTa, .int 12, .int 0, .ref mSi, .ref mLe, .ref mCl, .ref mCs, .ref mRe, .int 0, .int 0, .int 0, .int 0, .int 0, .int 0, .int 0, .ref mOp, .int 0, .ref mSt, .int 0, .ref mWo, .ref mSa, .int 0, .ref mWa, .int 0, .ref mFa, .ref mQu, .ref mIs, .int 0, .int 0, .long 0, .ref mIm, .ref mIx, .ref mMa])), (mTa, .inl (kmTa, 400, .inl g))]) (va_A [(m0, .inr (10, [.ref mTa, .int 8, .int 0, .ref mSi, .ref mLe, .ref mCl, .ref mCs, .ref mRe, .int 0, .int 0, .int 0, .int 0, .int 0, .int 0, .int 0, .ref mOp, .int 0, .ref mSt, .int 0, .ref mWo, .ref mSa, .int 0, .ref mWa, .int 0, .ref mFa, .ref mQu, .ref mIs, .int 0, .int 0, .long 0, .ref mIm, .ref mIx, .ref mMa])), (mTa, .inl (kmTa, 400, .inl f))] sz)) 0 0 (va_A [(m0, .inr (10, [.ref mTa, .int 8, .int 0, .ref mSi, .ref mLe, .ref mCl, .ref mCs, .ref mRe, .int 0, .int 0, .int 0, .int 0, .int 0, .int 0, .int 0, .ref mOp, .int 0, .ref mSt, .int 0, .ref mWo, .ref mSa, .int 0, .ref mWa, .int 0, .ref mFa, .ref mQu, .ref mIs, .int 0, .int 0, .long 0, .ref mIm, .ref mIx, .ref mMa])), (mTa, .inl (kmTa, 400, .inl f))] sz) := by
  refine MET (y := yX12_four) (cc := cX12_four) (maxL := 3) (ret := none) (d := 0) (mc := 0) (ms := 0) (D := D) (ad := ad) (ws := [(m0, .inr (10, [.ref mTa, .int 8, .int 0, .ref mSi, .ref mLe, .ref mCl, .ref mCs, .ref mRe, .int 0, .int 0, .int 0, .int 0, .int 0, .int 0, .int 0, .ref mOp, .int 0, .ref mSt, .int 0, .ref mWo, .ref mSa, .int 0, .ref mWa, .int 0, .ref mFa, .ref mQu, .ref mIs, .int 0, .int 0, .long 0, .ref mIm, .ref mIx, .ref mMa])), (mTa, .inl (kmTa, 400, .inl f))]) (tys := [(kmTa, .byte)]) (sz := sz) (av := [.ref m0, .int v]) (Qc := fun A => va_Qv (S := Unit) (fun _ => True) (fun _ t => ∃ (g : Nat → Int32), va_P D vwCl [(m0, .inr (10, [.ref mTa, .int 12, .int 0, .ref mSi, .ref mLe, .ref mCl, .ref mCs, .ref mRe, .int 0, .int 0, .int 0, .int 0, .int 0, .int 0, .int 0, .ref mOp, .int 0, .ref mSt, .int 0, .ref mWo, .ref mSa, .int 0, .ref mWa, .int 0, .ref mFa, .ref mQu, .ref mIs, .int 0, .int 0, .long 0, .ref mIm, .ref mIx, .ref mMa])), (mTa, .inl (kmTa, 400, .inl g))] t.heap ∧ va_K D vwCl [(kmTa, .byte)] t ∧ va_D A [(m0, .inr (10, [.ref mTa, .int 12, .int 0, .ref mSi, .ref mLe, .ref mCl, .ref mCs, .ref mRe, .int 0, .int 0, .int 0, .int 0, .int 0, .int 0, .int 0, .ref mOp, .int 0, .ref mSt, .int 0, .ref mWo, .ref mSa, .int 0, .ref mWa, .int 0, .ref mFa, .ref mQu, .ref mIs, .int 0, .int 0, .long 0, .ref mIm, .ref mIx, .ref mMa])), (mTa, .inl (kmTa, 400, .inl g))]) A) (fr := fun A => A) (by decide) (Nat.le_of_ble_eq_true rfl) ?_
  intro p e s m below meth c ls A H hHe hx hb hr hml hown hts hlocks hnm hP hK hD hA hS hN hl
  have hown : s.vm.findClass "WrongHoleModel" = some m.cls := hown
  have hT : ∀ w ∈ TB, w.before ([.ref m0, .int v] : List Value).toArray s = true := fun w h => hts w (List.mem_cons_of_mem _ h)
  have hl : lv_has ls 3 [(0, .ref m0), (1, .int v)] := hl
  have hP : va_P D vwCl [(m0, .inr (10, [.ref mTa, .int 8, .int 0, .ref mSi, .ref mLe, .ref mCl, .ref mCs, .ref mRe, .int 0, .int 0, .int 0, .int 0, .int 0, .int 0, .int 0, .ref mOp, .int 0, .ref mSt, .int 0, .ref mWo, .ref mSa, .int 0, .ref mWa, .int 0, .ref mFa, .ref mQu, .ref mIs, .int 0, .int 0, .long 0, .ref mIm, .ref mIx, .ref mMa])), (mTa, .inl (kmTa, 400, .inl f))] H := hP
  refine lv_bipush (v := 24) hx hb dX12_four_0 (by decide) ?_
  refine lv_istore_n (lv' := [(2, .int 24), (0, .ref m0), (1, .int v)]) hx hb dX12_four_2 rfl hl (by decide) rfl (fun ls hl => ?_)
  refine lv_iload_n hx hb dX12_four_3 rfl (lv_at hl 0 rfl) ?_
  refine lv_if_lt (tgt := 36) hx hb dX12_four_4 (by decide) (fun c_1 => absurd c_1 (by decide)) (fun _ => ?_)
  refine lv_aload_n hx hb dX12_four_7 rfl (lv_at hl 1 rfl) ?_
  refine va_get (D := D) (ci := 10) (v := .ref mTa) (C := "WrongHoleModel") (T := TX12) (N := 33) hx hb hts (iq_RX12 _) hown hK hP 0 rfl rfl 0 (by decide) (hT _ qq_5_152) (fun _ h9 => h9) rfl dX12_four_8 ?_
  refine lv_aload_n hx hb dX12_four_11 rfl (lv_at hl 1 rfl) ?_
  refine va_get (D := D) (ci := 10) (v := .int 8) (C := "WrongHoleModel") (T := TX12) (N := 33) hx hb hts (iq_RX12 _) hown hK hP 0 rfl rfl 1 (by decide) (hT _ qq_5_153) (fun _ h9 => h9) rfl dX12_four_12 ?_
  refine lv_iload_n hx hb dX12_four_15 rfl (lv_at hl 2 rfl) ?_
  refine lv_iload_n hx hb dX12_four_16 rfl (lv_at hl 0 rfl) ?_
  refine lv_ishr hx hb dX12_four_17 ?_
  refine lv_topi (fun x_2 e_3 => ?_)
  obtain ⟨x_4, e_5⟩ : ∃ z : Int32, (Int32.toInt8 x_2).toInt32 = z := ⟨_, rfl⟩
  refine lv_i2b (v := x_4) hx hb dX12_four_18 e_5 ?_
  refine va_bast hx hb hK hP hD hS 1 0 rfl rfl (vi_c rfl) dX12_four_19 (fun H locs hP hD hS => ?_)
  have hP : va_P D vwCl [(m0, .inr (10, [.ref mTa, .int 8, .int 0, .ref mSi, .ref mLe, .ref mCl, .ref mCs, .ref mRe, .int 0, .int 0, .int 0, .int 0, .int 0, .int 0, .int 0, .ref mOp, .int 0, .ref mSt, .int 0, .ref mWo, .ref mSa, .int 0, .ref mWa, .int 0, .ref mFa, .ref mQu, .ref mIs, .int 0, .int 0, .long 0, .ref mIm, .ref mIx, .ref mMa])), (mTa, .inl (kmTa, 400, .inl (upd f 8 (vp_nar .byte x_4))))] H := hP
  have hD : va_D A [(m0, .inr (10, [.ref mTa, .int 8, .int 0, .ref mSi, .ref mLe, .ref mCl, .ref mCs, .ref mRe, .int 0, .int 0, .int 0, .int 0, .int 0, .int 0, .int 0, .ref mOp, .int 0, .ref mSt, .int 0, .ref mWo, .ref mSa, .int 0, .ref mWa, .int 0, .ref mFa, .ref mQu, .ref mIs, .int 0, .int 0, .long 0, .ref mIm, .ref mIx, .ref mMa])), (mTa, .inl (kmTa, 400, .inl (upd f 8 (vp_nar .byte x_4))))] := hD
  generalize upd f 8 (vp_nar .byte x_4) = g_6 at hP hD
  refine lv_aload_n hx hb dX12_four_20 rfl (lv_at hl 1 rfl) ?_
  refine lv_dup hx hb dX12_four_21 rfl ?_
  refine va_get (D := D) (ci := 10) (v := .int 8) (C := "WrongHoleModel") (T := TX12) (N := 33) hx hb hts (iq_RX12 _) hown hK hP 0 rfl rfl 1 (by decide) (hT _ qq_5_153) (fun _ h9 => h9) rfl dX12_four_22 ?_
  refine lv_iconst (v := 1) hx hb dX12_four_25 (by decide) ?_
  refine lv_iadd hx hb dX12_four_26 ?_
  refine tc_i 9 (by decide) ?_
  refine va_put (D := D) (ci := 10) (v := .int 9) (ty := .int) (C := "WrongHoleModel") (T := TX12) (N := 33) hx hb hts (iq_RX12 _) tyX12 tyX12_ok nmX12 hown hK hP hD hS 0 rfl rfl 1 (by decide) (hT _ qq_5_153) (fun _ h9 => h9) rfl (by decide +kernel) rfl rfl (Nat.le_of_ble_eq_true rfl) dX12_four_27 (fun H locs hP hD hS => ?_)
  have hP : va_P D vwCl [(m0, .inr (10, [.ref mTa, .int 9, .int 0, .ref mSi, .ref mLe, .ref mCl, .ref mCs, .ref mRe, .int 0, .int 0, .int 0, .int 0, .int 0, .int 0, .int 0, .ref mOp, .int 0, .ref mSt, .int 0, .ref mWo, .ref mSa, .int 0, .ref mWa, .int 0, .ref mFa, .ref mQu, .ref mIs, .int 0, .int 0, .long 0, .ref mIm, .ref mIx, .ref mMa])), (mTa, .inl (kmTa, 400, .inl g_6))] H := hP
  have hD : va_D A [(m0, .inr (10, [.ref mTa, .int 9, .int 0, .ref mSi, .ref mLe, .ref mCl, .ref mCs, .ref mRe, .int 0, .int 0, .int 0, .int 0, .int 0, .int 0, .int 0, .ref mOp, .int 0, .ref mSt, .int 0, .ref mWo, .ref mSa, .int 0, .ref mWa, .int 0, .ref mFa, .ref mQu, .ref mIs, .int 0, .int 0, .long 0, .ref mIm, .ref mIx, .ref mMa])), (mTa, .inl (kmTa, 400, .inl g_6))] := hD
  refine lv_iinc (v := 16) (lv' := [(2, .int 16), (0, .ref m0), (1, .int v)]) hx hb dX12_four_30 hl (k := 0) rfl (by decide) (by decide) rfl (fun ls hl => ?_)
  refine lv_goto (tgt := 3) hx hb dX12_four_33 (by decide) ?_
  refine lv_iload_n hx hb dX12_four_3 rfl (lv_at hl 0 rfl) ?_
  refine lv_if_lt (tgt := 36) hx hb dX12_four_4 (by decide) (fun c_8 => absurd c_8 (by decide)) (fun _ => ?_)
  refine lv_aload_n hx hb dX12_four_7 rfl (lv_at hl 1 rfl) ?_
  refine va_get (D := D) (ci := 10) (v := .ref mTa) (C := "WrongHoleModel") (T := TX12) (N := 33) hx hb hts (iq_RX12 _) hown hK hP 0 rfl rfl 0 (by decide) (hT _ qq_5_152) (fun _ h9 => h9) rfl dX12_four_8 ?_
  refine lv_aload_n hx hb dX12_four_11 rfl (lv_at hl 1 rfl) ?_
  refine va_get (D := D) (ci := 10) (v := .int 9) (C := "WrongHoleModel") (T := TX12) (N := 33) hx hb hts (iq_RX12 _) hown hK hP 0 rfl rfl 1 (by decide) (hT _ qq_5_153) (fun _ h9 => h9) rfl dX12_four_12 ?_
  refine lv_iload_n hx hb dX12_four_15 rfl (lv_at hl 2 rfl) ?_
  refine lv_iload_n hx hb dX12_four_16 rfl (lv_at hl 0 rfl) ?_
  refine lv_ishr hx hb dX12_four_17 ?_
  refine lv_topi (fun x_9 e_10 => ?_)
  obtain ⟨x_11, e_12⟩ : ∃ z : Int32, (Int32.toInt8 x_9).toInt32 = z := ⟨_, rfl⟩
  refine lv_i2b (v := x_11) hx hb dX12_four_18 e_12 ?_
  refine va_bast hx hb hK hP hD hS 1 0 rfl rfl (vi_c rfl) dX12_four_19 (fun H locs hP hD hS => ?_)
  have hP : va_P D vwCl [(m0, .inr (10, [.ref mTa, .int 9, .int 0, .ref mSi, .ref mLe, .ref mCl, .ref mCs, .ref mRe, .int 0, .int 0, .int 0, .int 0, .int 0, .int 0, .int 0, .ref mOp, .int 0, .ref mSt, .int 0, .ref mWo, .ref mSa, .int 0, .ref mWa, .int 0, .ref mFa, .ref mQu, .ref mIs, .int 0, .int 0, .long 0, .ref mIm, .ref mIx, .ref mMa])), (mTa, .inl (kmTa, 400, .inl (upd g_6 9 (vp_nar .byte x_11))))] H := hP
  have hD : va_D A [(m0, .inr (10, [.ref mTa, .int 9, .int 0, .ref mSi, .ref mLe, .ref mCl, .ref mCs, .ref mRe, .int 0, .int 0, .int 0, .int 0, .int 0, .int 0, .int 0, .ref mOp, .int 0, .ref mSt, .int 0, .ref mWo, .ref mSa, .int 0, .ref mWa, .int 0, .ref mFa, .ref mQu, .ref mIs, .int 0, .int 0, .long 0, .ref mIm, .ref mIx, .ref mMa])), (mTa, .inl (kmTa, 400, .inl (upd g_6 9 (vp_nar .byte x_11))))] := hD
  generalize upd g_6 9 (vp_nar .byte x_11) = g_13 at hP hD
  refine lv_aload_n hx hb dX12_four_20 rfl (lv_at hl 1 rfl) ?_
  refine lv_dup hx hb dX12_four_21 rfl ?_
  refine va_get (D := D) (ci := 10) (v := .int 9) (C := "WrongHoleModel") (T := TX12) (N := 33) hx hb hts (iq_RX12 _) hown hK hP 0 rfl rfl 1 (by decide) (hT _ qq_5_153) (fun _ h9 => h9) rfl dX12_four_22 ?_
  refine lv_iconst (v := 1) hx hb dX12_four_25 (by decide) ?_
  refine lv_iadd hx hb dX12_four_26 ?_
  refine tc_i 10 (by decide) ?_
  refine va_put (D := D) (ci := 10) (v := .int 10) (ty := .int) (C := "WrongHoleModel") (T := TX12) (N := 33) hx hb hts (iq_RX12 _) tyX12 tyX12_ok nmX12 hown hK hP hD hS 0 rfl rfl 1 (by decide) (hT _ qq_5_153) (fun _ h9 => h9) rfl (by decide +kernel) rfl rfl (Nat.le_of_ble_eq_true rfl) dX12_four_27 (fun H locs hP hD hS => ?_)
  have hP : va_P D vwCl [(m0, .inr (10, [.ref mTa, .int 10, .int 0, .ref mSi, .ref mLe, .ref mCl, .ref mCs, .ref mRe, .int 0, .int 0, .int 0, .int 0, .int 0, .int 0, .int 0, .ref mOp, .int 0, .ref mSt, .int 0, .ref mWo, .ref mSa, .int 0, .ref mWa, .int 0, .ref mFa, .ref mQu, .ref mIs, .int 0, .int 0, .long 0, .ref mIm, .ref mIx, .ref mMa])), (mTa, .inl (kmTa, 400, .inl g_13))] H := hP
  have hD : va_D A [(m0, .inr (10, [.ref mTa, .int 10, .int 0, .ref mSi, .ref mLe, .ref mCl, .ref mCs, .ref mRe, .int 0, .int 0, .int 0, .int 0, .int 0, .int 0, .int 0, .ref mOp, .int 0, .ref mSt, .int 0, .ref mWo, .ref mSa, .int 0, .ref mWa, .int 0, .ref mFa, .ref mQu, .ref mIs, .int 0, .int 0, .long 0, .ref mIm, .ref mIx, .ref mMa])), (mTa, .inl (kmTa, 400, .inl g_13))] := hD
  refine lv_iinc (v := 8) (lv' := [(2, .int 8), (0, .ref m0), (1, .int v)]) hx hb dX12_four_30 hl (k := 0) rfl (by decide) (by decide) rfl (fun ls hl => ?_)
  refine lv_goto (tgt := 3) hx hb dX12_four_33 (by decide) ?_
  refine lv_iload_n hx hb dX12_four_3 rfl (lv_at hl 0 rfl) ?_
  refine lv_if_lt (tgt := 36) hx hb dX12_four_4 (by decide) (fun c_15 => absurd c_15 (by decide)) (fun _ => ?_)
  refine lv_aload_n hx hb dX12_four_7 rfl (lv_at hl 1 rfl) ?_
  refine va_get (D := D) (ci := 10) (v := .ref mTa) (C := "WrongHoleModel") (T := TX12) (N := 33) hx hb hts (iq_RX12 _) hown hK hP 0 rfl rfl 0 (by decide) (hT _ qq_5_152) (fun _ h9 => h9) rfl dX12_four_8 ?_
  refine lv_aload_n hx hb dX12_four_11 rfl (lv_at hl 1 rfl) ?_
  refine va_get (D := D) (ci := 10) (v := .int 10) (C := "WrongHoleModel") (T := TX12) (N := 33) hx hb hts (iq_RX12 _) hown hK hP 0 rfl rfl 1 (by decide) (hT _ qq_5_153) (fun _ h9 => h9) rfl dX12_four_12 ?_
  refine lv_iload_n hx hb dX12_four_15 rfl (lv_at hl 2 rfl) ?_
  refine lv_iload_n hx hb dX12_four_16 rfl (lv_at hl 0 rfl) ?_
  refine lv_ishr hx hb dX12_four_17 ?_
  refine lv_topi (fun x_16 e_17 => ?_)
  obtain ⟨x_18, e_19⟩ : ∃ z : Int32, (Int32.toInt8 x_16).toInt32 = z := ⟨_, rfl⟩
  refine lv_i2b (v := x_18) hx hb dX12_four_18 e_19 ?_
  refine va_bast hx hb hK hP hD hS 1 0 rfl rfl (vi_c rfl) dX12_four_19 (fun H locs hP hD hS => ?_)
  have hP : va_P D vwCl [(m0, .inr (10, [.ref mTa, .int 10, .int 0, .ref mSi, .ref mLe, .ref mCl, .ref mCs, .ref mRe, .int 0, .int 0, .int 0, .int 0, .int 0, .int 0, .int 0, .ref mOp, .int 0, .ref mSt, .int 0, .ref mWo, .ref mSa, .int 0, .ref mWa, .int 0, .ref mFa, .ref mQu, .ref mIs, .int 0, .int 0, .long 0, .ref mIm, .ref mIx, .ref mMa])), (mTa, .inl (kmTa, 400, .inl (upd g_13 10 (vp_nar .byte x_18))))] H := hP
  have hD : va_D A [(m0, .inr (10, [.ref mTa, .int 10, .int 0, .ref mSi, .ref mLe, .ref mCl, .ref mCs, .ref mRe, .int 0, .int 0, .int 0, .int 0, .int 0, .int 0, .int 0, .ref mOp, .int 0, .ref mSt, .int 0, .ref mWo, .ref mSa, .int 0, .ref mWa, .int 0, .ref mFa, .ref mQu, .ref mIs, .int 0, .int 0, .long 0, .ref mIm, .ref mIx, .ref mMa])), (mTa, .inl (kmTa, 400, .inl (upd g_13 10 (vp_nar .byte x_18))))] := hD
  generalize upd g_13 10 (vp_nar .byte x_18) = g_20 at hP hD
  refine lv_aload_n hx hb dX12_four_20 rfl (lv_at hl 1 rfl) ?_
  refine lv_dup hx hb dX12_four_21 rfl ?_
  refine va_get (D := D) (ci := 10) (v := .int 10) (C := "WrongHoleModel") (T := TX12) (N := 33) hx hb hts (iq_RX12 _) hown hK hP 0 rfl rfl 1 (by decide) (hT _ qq_5_153) (fun _ h9 => h9) rfl dX12_four_22 ?_
  refine lv_iconst (v := 1) hx hb dX12_four_25 (by decide) ?_
  refine lv_iadd hx hb dX12_four_26 ?_
  refine tc_i 11 (by decide) ?_
  refine va_put (D := D) (ci := 10) (v := .int 11) (ty := .int) (C := "WrongHoleModel") (T := TX12) (N := 33) hx hb hts (iq_RX12 _) tyX12 tyX12_ok nmX12 hown hK hP hD hS 0 rfl rfl 1 (by decide) (hT _ qq_5_153) (fun _ h9 => h9) rfl (by decide +kernel) rfl rfl (Nat.le_of_ble_eq_true rfl) dX12_four_27 (fun H locs hP hD hS => ?_)
  have hP : va_P D vwCl [(m0, .inr (10, [.ref mTa, .int 11, .int 0, .ref mSi, .ref mLe, .ref mCl, .ref mCs, .ref mRe, .int 0, .int 0, .int 0, .int 0, .int 0, .int 0, .int 0, .ref mOp, .int 0, .ref mSt, .int 0, .ref mWo, .ref mSa, .int 0, .ref mWa, .int 0, .ref mFa, .ref mQu, .ref mIs, .int 0, .int 0, .long 0, .ref mIm, .ref mIx, .ref mMa])), (mTa, .inl (kmTa, 400, .inl g_20))] H := hP
  have hD : va_D A [(m0, .inr (10, [.ref mTa, .int 11, .int 0, .ref mSi, .ref mLe, .ref mCl, .ref mCs, .ref mRe, .int 0, .int 0, .int 0, .int 0, .int 0, .int 0, .int 0, .ref mOp, .int 0, .ref mSt, .int 0, .ref mWo, .ref mSa, .int 0, .ref mWa, .int 0, .ref mFa, .ref mQu, .ref mIs, .int 0, .int 0, .long 0, .ref mIm, .ref mIx, .ref mMa])), (mTa, .inl (kmTa, 400, .inl g_20))] := hD
  refine lv_iinc (v := 0) (lv' := [(2, .int 0), (0, .ref m0), (1, .int v)]) hx hb dX12_four_30 hl (k := 0) rfl (by decide) (by decide) rfl (fun ls hl => ?_)
  refine lv_goto (tgt := 3) hx hb dX12_four_33 (by decide) ?_
  refine lv_iload_n hx hb dX12_four_3 rfl (lv_at hl 0 rfl) ?_
  refine lv_if_lt (tgt := 36) hx hb dX12_four_4 (by decide) (fun c_22 => absurd c_22 (by decide)) (fun _ => ?_)
  refine lv_aload_n hx hb dX12_four_7 rfl (lv_at hl 1 rfl) ?_
  refine va_get (D := D) (ci := 10) (v := .ref mTa) (C := "WrongHoleModel") (T := TX12) (N := 33) hx hb hts (iq_RX12 _) hown hK hP 0 rfl rfl 0 (by decide) (hT _ qq_5_152) (fun _ h9 => h9) rfl dX12_four_8 ?_
  refine lv_aload_n hx hb dX12_four_11 rfl (lv_at hl 1 rfl) ?_
  refine va_get (D := D) (ci := 10) (v := .int 11) (C := "WrongHoleModel") (T := TX12) (N := 33) hx hb hts (iq_RX12 _) hown hK hP 0 rfl rfl 1 (by decide) (hT _ qq_5_153) (fun _ h9 => h9) rfl dX12_four_12 ?_
  refine lv_iload_n hx hb dX12_four_15 rfl (lv_at hl 2 rfl) ?_
  refine lv_iload_n hx hb dX12_four_16 rfl (lv_at hl 0 rfl) ?_
  refine lv_ishr hx hb dX12_four_17 ?_
  refine lv_topi (fun x_23 e_24 => ?_)
  obtain ⟨x_25, e_26⟩ : ∃ z : Int32, (Int32.toInt8 x_23).toInt32 = z := ⟨_, rfl⟩
  refine lv_i2b (v := x_25) hx hb dX12_four_18 e_26 ?_
  refine va_bast hx hb hK hP hD hS 1 0 rfl rfl (vi_c rfl) dX12_four_19 (fun H locs hP hD hS => ?_)
  have hP : va_P D vwCl [(m0, .inr (10, [.ref mTa, .int 11, .int 0, .ref mSi, .ref mLe, .ref mCl, .ref mCs, .ref mRe, .int 0, .int 0, .int 0, .int 0, .int 0, .int 0, .int 0, .ref mOp, .int 0, .ref mSt, .int 0, .ref mWo, .ref mSa, .int 0, .ref mWa, .int 0, .ref mFa, .ref mQu, .ref mIs, .int 0, .int 0, .long 0, .ref mIm, .ref mIx, .ref mMa])), (mTa, .inl (kmTa, 400, .inl (upd g_20 11 (vp_nar .byte x_25))))] H := hP
  have hD : va_D A [(m0, .inr (10, [.ref mTa, .int 11, .int 0, .ref mSi, .ref mLe, .ref mCl, .ref mCs, .ref mRe, .int 0, .int 0, .int 0, .int 0, .int 0, .int 0, .int 0, .ref mOp, .int 0, .ref mSt, .int 0, .ref mWo, .ref mSa, .int 0, .ref mWa, .int 0, .ref mFa, .ref mQu, .ref mIs, .int 0, .int 0, .long 0, .ref mIm, .ref mIx, .ref mMa])), (mTa, .inl (kmTa, 400, .inl (upd g_20 11 (vp_nar .byte x_25))))] := hD
  generalize upd g_20 11 (vp_nar .byte x_25) = g_27 at hP hD
  refine lv_aload_n hx hb dX12_four_20 rfl (lv_at hl 1 rfl) ?_
  refine lv_dup hx hb dX12_four_21 rfl ?_
  refine va_get (D := D) (ci := 10) (v := .int 11) (C := "WrongHoleModel") (T := TX12) (N := 33) hx hb hts (iq_RX12 _) hown hK hP 0 rfl rfl 1 (by decide) (hT _ qq_5_153) (fun _ h9 => h9) rfl dX12_four_22 ?_
  refine lv_iconst (v := 1) hx hb dX12_four_25 (by decide) ?_
  refine lv_iadd hx hb dX12_four_26 ?_
  refine tc_i 12 (by decide) ?_
  refine va_put (D := D) (ci := 10) (v := .int 12) (ty := .int) (C := "WrongHoleModel") (T := TX12) (N := 33) hx hb hts (iq_RX12 _) tyX12 tyX12_ok nmX12 hown hK hP hD hS 0 rfl rfl 1 (by decide) (hT _ qq_5_153) (fun _ h9 => h9) rfl (by decide +kernel) rfl rfl (Nat.le_of_ble_eq_true rfl) dX12_four_27 (fun H locs hP hD hS => ?_)
  have hP : va_P D vwCl [(m0, .inr (10, [.ref mTa, .int 12, .int 0, .ref mSi, .ref mLe, .ref mCl, .ref mCs, .ref mRe, .int 0, .int 0, .int 0, .int 0, .int 0, .int 0, .int 0, .ref mOp, .int 0, .ref mSt, .int 0, .ref mWo, .ref mSa, .int 0, .ref mWa, .int 0, .ref mFa, .ref mQu, .ref mIs, .int 0, .int 0, .long 0, .ref mIm, .ref mIx, .ref mMa])), (mTa, .inl (kmTa, 400, .inl g_27))] H := hP
  have hD : va_D A [(m0, .inr (10, [.ref mTa, .int 12, .int 0, .ref mSi, .ref mLe, .ref mCl, .ref mCs, .ref mRe, .int 0, .int 0, .int 0, .int 0, .int 0, .int 0, .int 0, .ref mOp, .int 0, .ref mSt, .int 0, .ref mWo, .ref mSa, .int 0, .ref mWa, .int 0, .ref mFa, .ref mQu, .ref mIs, .int 0, .int 0, .long 0, .ref mIm, .ref mIx, .ref mMa])), (mTa, .inl (kmTa, 400, .inl g_27))] := hD
  refine lv_iinc (v := (-8)) (lv' := [(2, .int (-8)), (0, .ref m0), (1, .int v)]) hx hb dX12_four_30 hl (k := 0) rfl (by decide) (by decide) rfl (fun ls hl => ?_)
  refine lv_goto (tgt := 3) hx hb dX12_four_33 (by decide) ?_
  refine lv_iload_n hx hb dX12_four_3 rfl (lv_at hl 0 rfl) ?_
  refine lv_if_lt (tgt := 36) hx hb dX12_four_4 (by decide) (fun _ => ?_) (fun c_29 => absurd (by decide) c_29)
  refine W.widen (k := 0) (n := 0) (Nat.le_of_ble_eq_true rfl) (Nat.le_of_ble_eq_true rfl) ?_
  have hP9 := hP.sub (ws' := [(m0, .inr (10, [.ref mTa, .int 12, .int 0, .ref mSi, .ref mLe, .ref mCl, .ref mCs, .ref mRe, .int 0, .int 0, .int 0, .int 0, .int 0, .int 0, .int 0, .ref mOp, .int 0, .ref mSt, .int 0, .ref mWo, .ref mSa, .int 0, .ref mWa, .int 0, .ref mFa, .ref mQu, .ref mIs, .int 0, .int 0, .long 0, .ref mIm, .ref mIx, .ref mMa])), (mTa, .inl (kmTa, 400, .inl g_27))]) [0, 1] rfl
  have hD9 := hD.sub (ws' := [(m0, .inr (10, [.ref mTa, .int 12, .int 0, .ref mSi, .ref mLe, .ref mCl, .ref mCs, .ref mRe, .int 0, .int 0, .int 0, .int 0, .int 0, .int 0, .int 0, .ref mOp, .int 0, .ref mSt, .int 0, .ref mWo, .ref mSa, .int 0, .ref mWa, .int 0, .ref mFa, .ref mQu, .ref mIs, .int 0, .int 0, .long 0, .ref mIm, .ref mIx, .ref mMa])), (mTa, .inl (kmTa, 400, .inl g_27))]) [0, 1] (by decide) rfl
  have hK9 := hK.sub (tys' := [(kmTa, .byte)]) [0] rfl
  exact W.vret hx hb hr (fun t9 ht9 hW9 => ⟨⟨(), rfl, trivial, ⟨g_27, by rw [ht9]; exact hP9, va_K.moved hW9.alike hK9, hD9⟩⟩, hS.F ht9⟩) hS.2.2 dX12_four_36
set_option maxHeartbeats 4000000 in
set_option maxRecDepth 100000 in
theorem c_four_12 (l : Launch) (D : va_G) (ad : Nat → Nat) (sz : Nat) (m0 : Nat) (mTa : Nat) (mSi : Nat) (mLe : Nat) (mCl : Nat) (mCs : Nat) (mRe : Nat) (mOp : Nat) (mSt : Nat) (mWo : Nat) (mSa : Nat) (mWa : Nat) (mFa : Nat) (mQu : Nat) (mIs : Nat) (mIm : Nat) (mIx : Nat) (mMa : Nat) (kmTa : ClassId) (f : Nat → Int32) (v : Int32)  : Met l yX12_four (Cond.code yX12_four cX12_four 3 none :: TB) (RM 0 0 0) (va_Pc [.ref m0, .int v] (PRE D ad [(m0, .inr (10, [.ref mTa, .int 12, .int 0, .ref mSi, .ref mLe, .ref mCl, .ref mCs, .ref mRe, .int 0, .int 0, .int 0, .int 0, .int 0, .int 0, .int 0, .ref mOp, .int 0, .ref mSt, .int 0, .ref mWo, .ref mSa, .int 0, .ref mWa, .int 0, .ref mFa, .ref mQu, .ref mIs, .int 0, .int 0, .long 0, .ref mIm, .ref mIx, .ref mMa])), (mTa, .inl (kmTa, 400, .inl f))] [(kmTa, .byte)] sz)) (va_Qv (S := Unit) (fun _ => True) (fun _ t => ∃ (g : Nat → Int32), va_P D vwCl [(m0, .inr (10, [.ref mTa, .int 16, .int 0, .ref mSi, .ref mLe, .ref mCl, .ref mCs, .ref mRe, .int 0, .int 0, .int 0, .int 0, .int 0, .int 0, .int 0, .ref mOp, .int 0, .ref mSt, .int 0, .ref mWo, .ref mSa, .int 0, .ref mWa, .int 0, .ref mFa, .ref mQu, .ref mIs, .int 0, .int 0, .long 0, .ref mIm, .ref mIx, .ref mMa])), (mTa, .inl (kmTa, 400, .inl g))] t.heap ∧ va_K D vwCl [(kmTa, .byte)] t ∧ va_D (va_A [(m0, .inr (10, [.ref mTa, .int 12, .int 0, .ref mSi, .ref mLe, .ref mCl, .ref mCs, .ref mRe, .int 0, .int 0, .int 0, .int 0, .int 0, .int 0, .int 0, .ref mOp, .int 0, .ref mSt, .int 0, .ref mWo, .ref mSa, .int 0, .ref mWa, .int 0, .ref mFa, .ref mQu, .ref mIs, .int 0, .int 0, .long 0, .ref mIm, .ref mIx, .ref mMa])), (mTa, .inl (kmTa, 400, .inl f))] sz) [(m0, .inr (10, [.ref mTa, .int 16, .int 0, .ref mSi, .ref mLe, .ref mCl, .ref mCs, .ref mRe, .int 0, .int 0, .int 0, .int 0, .int 0, .int 0, .int 0, .ref mOp, .int 0, .ref mSt, .int 0, .ref mWo, .ref mSa, .int 0, .ref mWa, .int 0, .ref mFa, .ref mQu, .ref mIs, .int 0, .int 0, .long 0, .ref mIm, .ref mIx, .ref mMa])), (mTa, .inl (kmTa, 400, .inl g))]) (va_A [(m0, .inr (10, [.ref mTa, .int 12, .int 0, .ref mSi, .ref mLe, .ref mCl, .ref mCs, .ref mRe, .int 0, .int 0, .int 0, .int 0, .int 0, .int 0, .int 0, .ref mOp, .int 0, .ref mSt, .int 0, .ref mWo, .ref mSa, .int 0, .ref mWa, .int 0, .ref mFa, .ref mQu, .ref mIs, .int 0, .int 0, .long 0, .ref mIm, .ref mIx, .ref mMa])), (mTa, .inl (kmTa, 400, .inl f))] sz)) 0 0 (va_A [(m0, .inr (10, [.ref mTa, .int 12, .int 0, .ref mSi, .ref mLe, .ref mCl, .ref mCs, .ref mRe, .int 0, .int 0, .int 0, .int 0, .int 0, .int 0, .int 0, .ref mOp, .int 0, .ref mSt, .int 0, .ref mWo, .ref mSa, .int 0, .ref mWa, .int 0, .ref mFa, .ref mQu, .ref mIs, .int 0, .int 0, .long 0, .ref mIm, .ref mIx, .ref mMa])), (mTa, .inl (kmTa, 400, .inl f))] sz) := by
  refine MET (y := yX12_four) (cc := cX12_four) (maxL := 3) (ret := none) (d := 0) (mc := 0) (ms := 0) (D := D) (ad := ad) (ws := [(m0, .inr (10, [.ref mTa, .int 12, .int 0, .ref mSi, .ref mLe, .ref mCl, .ref mCs, .ref mRe, .int 0, .int 0, .int 0, .int 0, .int 0, .int 0, .int 0, .ref mOp, .int 0, .ref mSt, .int 0, .ref mWo, .ref mSa, .int 0, .ref mWa, .int 0, .ref mFa, .ref mQu, .ref mIs, .int 0, .int 0, .long 0, .ref mIm, .ref mIx, .ref mMa])), (mTa, .inl (kmTa, 400, .inl f))]) (tys := [(kmTa, .byte)]) (sz := sz) (av := [.ref m0, .int v]) (Qc := fun A => va_Qv (S := Unit) (fun _ => True) (fun _ t => ∃ (g : Nat → Int32), va_P D vwCl [(m0, .inr (10, [.ref mTa, .int 16, .int 0, .ref mSi, .ref mLe, .ref mCl, .ref mCs, .ref mRe, .int 0, .int 0, .int 0, .int 0, .int 0, .int 0, .int 0, .ref mOp, .int 0, .ref mSt, .int 0, .ref mWo, .ref mSa, .int 0, .ref mWa, .int 0, .ref mFa, .ref mQu, .ref mIs, .int 0, .int 0, .long 0, .ref mIm, .ref mIx, .ref mMa])), (mTa, .inl (kmTa, 400, .inl g))] t.heap ∧ va_K D vwCl [(kmTa, .byte)] t ∧ va_D A [(m0, .inr (10, [.ref mTa, .int 16, .int 0, .ref mSi, .ref mLe, .ref mCl, .ref mCs, .ref mRe, .int 0, .int 0, .int 0, .int 0, .int 0, .int 0, .int 0, .ref mOp, .int 0, .ref mSt, .int 0, .ref mWo, .ref mSa, .int 0, .ref mWa, .int 0, .ref mFa, .ref mQu, .ref mIs, .int 0, .int 0, .long 0, .ref mIm, .ref mIx, .ref mMa])), (mTa, .inl (kmTa, 400, .inl g))]) A) (fr := fun A => A) (by decide) (Nat.le_of_ble_eq_true rfl) ?_
  intro p e s m below meth c ls A H hHe hx hb hr hml hown hts hlocks hnm hP hK hD hA hS hN hl
  have hown : s.vm.findClass "WrongHoleModel" = some m.cls := hown
  have hT : ∀ w ∈ TB, w.before ([.ref m0, .int v] : List Value).toArray s = true := fun w h => hts w (List.mem_cons_of_mem _ h)
  have hl : lv_has ls 3 [(0, .ref m0), (1, .int v)] := hl
  have hP : va_P D vwCl [(m0, .inr (10, [.ref mTa, .int 12, .int 0, .ref mSi, .ref mLe, .ref mCl, .ref mCs, .ref mRe, .int 0, .int 0, .int 0, .int 0, .int 0, .int 0, .int 0, .ref mOp, .int 0, .ref mSt, .int 0, .ref mWo, .ref mSa, .int 0, .ref mWa, .int 0, .ref mFa, .ref mQu, .ref mIs, .int 0, .int 0, .long 0, .ref mIm, .ref mIx, .ref mMa])), (mTa, .inl (kmTa, 400, .inl f))] H := hP
  refine lv_bipush (v := 24) hx hb dX12_four_0 (by decide) ?_
  refine lv_istore_n (lv' := [(2, .int 24), (0, .ref m0), (1, .int v)]) hx hb dX12_four_2 rfl hl (by decide) rfl (fun ls hl => ?_)
  refine lv_iload_n hx hb dX12_four_3 rfl (lv_at hl 0 rfl) ?_
  refine lv_if_lt (tgt := 36) hx hb dX12_four_4 (by decide) (fun c_1 => absurd c_1 (by decide)) (fun _ => ?_)
  refine lv_aload_n hx hb dX12_four_7 rfl (lv_at hl 1 rfl) ?_
  refine va_get (D := D) (ci := 10) (v := .ref mTa) (C := "WrongHoleModel") (T := TX12) (N := 33) hx hb hts (iq_RX12 _) hown hK hP 0 rfl rfl 0 (by decide) (hT _ qq_5_152) (fun _ h9 => h9) rfl dX12_four_8 ?_
  refine lv_aload_n hx hb dX12_four_11 rfl (lv_at hl 1 rfl) ?_
  refine va_get (D := D) (ci := 10) (v := .int 12) (C := "WrongHoleModel") (T := TX12) (N := 33) hx hb hts (iq_RX12 _) hown hK hP 0 rfl rfl 1 (by decide) (hT _ qq_5_153) (fun _ h9 => h9) rfl dX12_four_12 ?_
  refine lv_iload_n hx hb dX12_four_15 rfl (lv_at hl 2 rfl) ?_
  refine lv_iload_n hx hb dX12_four_16 rfl (lv_at hl 0 rfl) ?_
  refine lv_ishr hx hb dX12_four_17 ?_
  refine lv_topi (fun x_2 e_3 => ?_)
  obtain ⟨x_4, e_5⟩ : ∃ z : Int32, (Int32.toInt8 x_2).toInt32 = z := ⟨_, rfl⟩
  refine lv_i2b (v := x_4) hx hb dX12_four_18 e_5 ?_
  refine va_bast hx hb hK hP hD hS 1 0 rfl rfl (vi_c rfl) dX12_four_19 (fun H locs hP hD hS => ?_)
  have hP : va_P D vwCl [(m0, .inr (10, [.ref mTa, .int 12, .int 0, .ref mSi, .ref mLe, .ref mCl, .ref mCs, .ref mRe, .int 0, .int 0, .int 0, .int 0, .int 0, .int 0, .int 0, .ref mOp, .int 0, .ref mSt, .int 0, .ref mWo, .ref mSa, .int 0, .ref mWa, .int 0, .ref mFa, .ref mQu, .ref mIs, .int 0, .int 0, .long 0, .ref mIm, .ref mIx, .ref mMa])), (mTa, .inl (kmTa, 400, .inl (upd f 12 (vp_nar .byte x_4))))] H := hP
  have hD : va_D A [(m0, .inr (10, [.ref mTa, .int 12, .int 0, .ref mSi, .ref mLe, .ref mCl, .ref mCs, .ref mRe, .int 0, .int 0, .int 0, .int 0, .int 0, .int 0, .int 0, .ref mOp, .int 0, .ref mSt, .int 0, .ref mWo, .ref mSa, .int 0, .ref mWa, .int 0, .ref mFa, .ref mQu, .ref mIs, .int 0, .int 0, .long 0, .ref mIm, .ref mIx, .ref mMa])), (mTa, .inl (kmTa, 400, .inl (upd f 12 (vp_nar .byte x_4))))] := hD
  generalize upd f 12 (vp_nar .byte x_4) = g_6 at hP hD
  refine lv_aload_n hx hb dX12_four_20 rfl (lv_at hl 1 rfl) ?_
  refine lv_dup hx hb dX12_four_21 rfl ?_
  refine va_get (D := D) (ci := 10) (v := .int 12) (C := "WrongHoleModel") (T := TX12) (N := 33) hx hb hts (iq_RX12 _) hown hK hP 0 rfl rfl 1 (by decide) (hT _ qq_5_153) (fun _ h9 => h9) rfl dX12_four_22 ?_
  refine lv_iconst (v := 1) hx hb dX12_four_25 (by decide) ?_
  refine lv_iadd hx hb dX12_four_26 ?_
  refine tc_i 13 (by decide) ?_
  refine va_put (D := D) (ci := 10) (v := .int 13) (ty := .int) (C := "WrongHoleModel") (T := TX12) (N := 33) hx hb hts (iq_RX12 _) tyX12 tyX12_ok nmX12 hown hK hP hD hS 0 rfl rfl 1 (by decide) (hT _ qq_5_153) (fun _ h9 => h9) rfl (by decide +kernel) rfl rfl (Nat.le_of_ble_eq_true rfl) dX12_four_27 (fun H locs hP hD hS => ?_)
  have hP : va_P D vwCl [(m0, .inr (10, [.ref mTa, .int 13, .int 0, .ref mSi, .ref mLe, .ref mCl, .ref mCs, .ref mRe, .int 0, .int 0, .int 0, .int 0, .int 0, .int 0, .int 0, .ref mOp, .int 0, .ref mSt, .int 0, .ref mWo, .ref mSa, .int 0, .ref mWa, .int 0, .ref mFa, .ref mQu, .ref mIs, .int 0, .int 0, .long 0, .ref mIm, .ref mIx, .ref mMa])), (mTa, .inl (kmTa, 400, .inl g_6))] H := hP
  have hD : va_D A [(m0, .inr (10, [.ref mTa, .int 13, .int 0, .ref mSi, .ref mLe, .ref mCl, .ref mCs, .ref mRe, .int 0, .int 0, .int 0, .int 0, .int 0, .int 0, .int 0, .ref mOp, .int 0, .ref mSt, .int 0, .ref mWo, .ref mSa, .int 0, .ref mWa, .int 0, .ref mFa, .ref mQu, .ref mIs, .int 0, .int 0, .long 0, .ref mIm, .ref mIx, .ref mMa])), (mTa, .inl (kmTa, 400, .inl g_6))] := hD
  refine lv_iinc (v := 16) (lv' := [(2, .int 16), (0, .ref m0), (1, .int v)]) hx hb dX12_four_30 hl (k := 0) rfl (by decide) (by decide) rfl (fun ls hl => ?_)
  refine lv_goto (tgt := 3) hx hb dX12_four_33 (by decide) ?_
  refine lv_iload_n hx hb dX12_four_3 rfl (lv_at hl 0 rfl) ?_
  refine lv_if_lt (tgt := 36) hx hb dX12_four_4 (by decide) (fun c_8 => absurd c_8 (by decide)) (fun _ => ?_)
  refine lv_aload_n hx hb dX12_four_7 rfl (lv_at hl 1 rfl) ?_
  refine va_get (D := D) (ci := 10) (v := .ref mTa) (C := "WrongHoleModel") (T := TX12) (N := 33) hx hb hts (iq_RX12 _) hown hK hP 0 rfl rfl 0 (by decide) (hT _ qq_5_152) (fun _ h9 => h9) rfl dX12_four_8 ?_
  refine lv_aload_n hx hb dX12_four_11 rfl (lv_at hl 1 rfl) ?_
  refine va_get (D := D) (ci := 10) (v := .int 13) (C := "WrongHoleModel") (T := TX12) (N := 33) hx hb hts (iq_RX12 _) hown hK hP 0 rfl rfl 1 (by decide) (hT _ qq_5_153) (fun _ h9 => h9) rfl dX12_four_12 ?_
  refine lv_iload_n hx hb dX12_four_15 rfl (lv_at hl 2 rfl) ?_
  refine lv_iload_n hx hb dX12_four_16 rfl (lv_at hl 0 rfl) ?_
  refine lv_ishr hx hb dX12_four_17 ?_
  refine lv_topi (fun x_9 e_10 => ?_)
  obtain ⟨x_11, e_12⟩ : ∃ z : Int32, (Int32.toInt8 x_9).toInt32 = z := ⟨_, rfl⟩
  refine lv_i2b (v := x_11) hx hb dX12_four_18 e_12 ?_
  refine va_bast hx hb hK hP hD hS 1 0 rfl rfl (vi_c rfl) dX12_four_19 (fun H locs hP hD hS => ?_)
  have hP : va_P D vwCl [(m0, .inr (10, [.ref mTa, .int 13, .int 0, .ref mSi, .ref mLe, .ref mCl, .ref mCs, .ref mRe, .int 0, .int 0, .int 0, .int 0, .int 0, .int 0, .int 0, .ref mOp, .int 0, .ref mSt, .int 0, .ref mWo, .ref mSa, .int 0, .ref mWa, .int 0, .ref mFa, .ref mQu, .ref mIs, .int 0, .int 0, .long 0, .ref mIm, .ref mIx, .ref mMa])), (mTa, .inl (kmTa, 400, .inl (upd g_6 13 (vp_nar .byte x_11))))] H := hP
  have hD : va_D A [(m0, .inr (10, [.ref mTa, .int 13, .int 0, .ref mSi, .ref mLe, .ref mCl, .ref mCs, .ref mRe, .int 0, .int 0, .int 0, .int 0, .int 0, .int 0, .int 0, .ref mOp, .int 0, .ref mSt, .int 0, .ref mWo, .ref mSa, .int 0, .ref mWa, .int 0, .ref mFa, .ref mQu, .ref mIs, .int 0, .int 0, .long 0, .ref mIm, .ref mIx, .ref mMa])), (mTa, .inl (kmTa, 400, .inl (upd g_6 13 (vp_nar .byte x_11))))] := hD
  generalize upd g_6 13 (vp_nar .byte x_11) = g_13 at hP hD
  refine lv_aload_n hx hb dX12_four_20 rfl (lv_at hl 1 rfl) ?_
  refine lv_dup hx hb dX12_four_21 rfl ?_
  refine va_get (D := D) (ci := 10) (v := .int 13) (C := "WrongHoleModel") (T := TX12) (N := 33) hx hb hts (iq_RX12 _) hown hK hP 0 rfl rfl 1 (by decide) (hT _ qq_5_153) (fun _ h9 => h9) rfl dX12_four_22 ?_
  refine lv_iconst (v := 1) hx hb dX12_four_25 (by decide) ?_
  refine lv_iadd hx hb dX12_four_26 ?_
  refine tc_i 14 (by decide) ?_
  refine va_put (D := D) (ci := 10) (v := .int 14) (ty := .int) (C := "WrongHoleModel") (T := TX12) (N := 33) hx hb hts (iq_RX12 _) tyX12 tyX12_ok nmX12 hown hK hP hD hS 0 rfl rfl 1 (by decide) (hT _ qq_5_153) (fun _ h9 => h9) rfl (by decide +kernel) rfl rfl (Nat.le_of_ble_eq_true rfl) dX12_four_27 (fun H locs hP hD hS => ?_)
  have hP : va_P D vwCl [(m0, .inr (10, [.ref mTa, .int 14, .int 0, .ref mSi, .ref mLe, .ref mCl, .ref mCs, .ref mRe, .int 0, .int 0, .int 0, .int 0, .int 0, .int 0, .int 0, .ref mOp, .int 0, .ref mSt, .int 0, .ref mWo, .ref mSa, .int 0, .ref mWa, .int 0, .ref mFa, .ref mQu, .ref mIs, .int 0, .int 0, .long 0, .ref mIm, .ref mIx, .ref mMa])), (mTa, .inl (kmTa, 400, .inl g_13))] H := hP
  have hD : va_D A [(m0, .inr (10, [.ref mTa, .int 14, .int 0, .ref mSi, .ref mLe, .ref mCl, .ref mCs, .ref mRe, .int 0, .int 0, .int 0, .int 0, .int 0, .int 0, .int 0, .ref mOp, .int 0, .ref mSt, .int 0, .ref mWo, .ref mSa, .int 0, .ref mWa, .int 0, .ref mFa, .ref mQu, .ref mIs, .int 0, .int 0, .long 0, .ref mIm, .ref mIx, .ref mMa])), (mTa, .inl (kmTa, 400, .inl g_13))] := hD
  refine lv_iinc (v := 8) (lv' := [(2, .int 8), (0, .ref m0), (1, .int v)]) hx hb dX12_four_30 hl (k := 0) rfl (by decide) (by decide) rfl (fun ls hl => ?_)
  refine lv_goto (tgt := 3) hx hb dX12_four_33 (by decide) ?_
  refine lv_iload_n hx hb dX12_four_3 rfl (lv_at hl 0 rfl) ?_
  refine lv_if_lt (tgt := 36) hx hb dX12_four_4 (by decide) (fun c_15 => absurd c_15 (by decide)) (fun _ => ?_)
  refine lv_aload_n hx hb dX12_four_7 rfl (lv_at hl 1 rfl) ?_
  refine va_get (D := D) (ci := 10) (v := .ref mTa) (C := "WrongHoleModel") (T := TX12) (N := 33) hx hb hts (iq_RX12 _) hown hK hP 0 rfl rfl 0 (by decide) (hT _ qq_5_152) (fun _ h9 => h9) rfl dX12_four_8 ?_
  refine lv_aload_n hx hb dX12_four_11 rfl (lv_at hl 1 rfl) ?_
  refine va_get (D := D) (ci := 10) (v := .int 14) (C := "WrongHoleModel") (T := TX12) (N := 33) hx hb hts (iq_RX12 _) hown hK hP 0 rfl rfl 1 (by decide) (hT _ qq_5_153) (fun _ h9 => h9) rfl dX12_four_12 ?_
  refine lv_iload_n hx hb dX12_four_15 rfl (lv_at hl 2 rfl) ?_
  refine lv_iload_n hx hb dX12_four_16 rfl (lv_at hl 0 rfl) ?_
  refine lv_ishr hx hb dX12_four_17 ?_
  refine lv_topi (fun x_16 e_17 => ?_)
  obtain ⟨x_18, e_19⟩ : ∃ z : Int32, (Int32.toInt8 x_16).toInt32 = z := ⟨_, rfl⟩
  refine lv_i2b (v := x_18) hx hb dX12_four_18 e_19 ?_
  refine va_bast hx hb hK hP hD hS 1 0 rfl rfl (vi_c rfl) dX12_four_19 (fun H locs hP hD hS => ?_)
  have hP : va_P D vwCl [(m0, .inr (10, [.ref mTa, .int 14, .int 0, .ref mSi, .ref mLe, .ref mCl, .ref mCs, .ref mRe, .int 0, .int 0, .int 0, .int 0, .int 0, .int 0, .int 0, .ref mOp, .int 0, .ref mSt, .int 0, .ref mWo, .ref mSa, .int 0, .ref mWa, .int 0, .ref mFa, .ref mQu, .ref mIs, .int 0, .int 0, .long 0, .ref mIm, .ref mIx, .ref mMa])), (mTa, .inl (kmTa, 400, .inl (upd g_13 14 (vp_nar .byte x_18))))] H := hP
  have hD : va_D A [(m0, .inr (10, [.ref mTa, .int 14, .int 0, .ref mSi, .ref mLe, .ref mCl, .ref mCs, .ref mRe, .int 0, .int 0, .int 0, .int 0, .int 0, .int 0, .int 0, .ref mOp, .int 0, .ref mSt, .int 0, .ref mWo, .ref mSa, .int 0, .ref mWa, .int 0, .ref mFa, .ref mQu, .ref mIs, .int 0, .int 0, .long 0, .ref mIm, .ref mIx, .ref mMa])), (mTa, .inl (kmTa, 400, .inl (upd g_13 14 (vp_nar .byte x_18))))] := hD
  generalize upd g_13 14 (vp_nar .byte x_18) = g_20 at hP hD
  refine lv_aload_n hx hb dX12_four_20 rfl (lv_at hl 1 rfl) ?_
  refine lv_dup hx hb dX12_four_21 rfl ?_
  refine va_get (D := D) (ci := 10) (v := .int 14) (C := "WrongHoleModel") (T := TX12) (N := 33) hx hb hts (iq_RX12 _) hown hK hP 0 rfl rfl 1 (by decide) (hT _ qq_5_153) (fun _ h9 => h9) rfl dX12_four_22 ?_
  refine lv_iconst (v := 1) hx hb dX12_four_25 (by decide) ?_
  refine lv_iadd hx hb dX12_four_26 ?_
  refine tc_i 15 (by decide) ?_
  refine va_put (D := D) (ci := 10) (v := .int 15) (ty := .int) (C := "WrongHoleModel") (T := TX12) (N := 33) hx hb hts (iq_RX12 _) tyX12 tyX12_ok nmX12 hown hK hP hD hS 0 rfl rfl 1 (by decide) (hT _ qq_5_153) (fun _ h9 => h9) rfl (by decide +kernel) rfl rfl (Nat.le_of_ble_eq_true rfl) dX12_four_27 (fun H locs hP hD hS => ?_)
  have hP : va_P D vwCl [(m0, .inr (10, [.ref mTa, .int 15, .int 0, .ref mSi, .ref mLe, .ref mCl, .ref mCs, .ref mRe, .int 0, .int 0, .int 0, .int 0, .int 0, .int 0, .int 0, .ref mOp, .int 0, .ref mSt, .int 0, .ref mWo, .ref mSa, .int 0, .ref mWa, .int 0, .ref mFa, .ref mQu, .ref mIs, .int 0, .int 0, .long 0, .ref mIm, .ref mIx, .ref mMa])), (mTa, .inl (kmTa, 400, .inl g_20))] H := hP
  have hD : va_D A [(m0, .inr (10, [.ref mTa, .int 15, .int 0, .ref mSi, .ref mLe, .ref mCl, .ref mCs, .ref mRe, .int 0, .int 0, .int 0, .int 0, .int 0, .int 0, .int 0, .ref mOp, .int 0, .ref mSt, .int 0, .ref mWo, .ref mSa, .int 0, .ref mWa, .int 0, .ref mFa, .ref mQu, .ref mIs, .int 0, .int 0, .long 0, .ref mIm, .ref mIx, .ref mMa])), (mTa, .inl (kmTa, 400, .inl g_20))] := hD
  refine lv_iinc (v := 0) (lv' := [(2, .int 0), (0, .ref m0), (1, .int v)]) hx hb dX12_four_30 hl (k := 0) rfl (by decide) (by decide) rfl (fun ls hl => ?_)
  refine lv_goto (tgt := 3) hx hb dX12_four_33 (by decide) ?_
  refine lv_iload_n hx hb dX12_four_3 rfl (lv_at hl 0 rfl) ?_
  refine lv_if_lt (tgt := 36) hx hb dX12_four_4 (by decide) (fun c_22 => absurd c_22 (by decide)) (fun _ => ?_)
  refine lv_aload_n hx hb dX12_four_7 rfl (lv_at hl 1 rfl) ?_
  refine va_get (D := D) (ci := 10) (v := .ref mTa) (C := "WrongHoleModel") (T := TX12) (N := 33) hx hb hts (iq_RX12 _) hown hK hP 0 rfl rfl 0 (by decide) (hT _ qq_5_152) (fun _ h9 => h9) rfl dX12_four_8 ?_
  refine lv_aload_n hx hb dX12_four_11 rfl (lv_at hl 1 rfl) ?_
  refine va_get (D := D) (ci := 10) (v := .int 15) (C := "WrongHoleModel") (T := TX12) (N := 33) hx hb hts (iq_RX12 _) hown hK hP 0 rfl rfl 1 (by decide) (hT _ qq_5_153) (fun _ h9 => h9) rfl dX12_four_12 ?_
  refine lv_iload_n hx hb dX12_four_15 rfl (lv_at hl 2 rfl) ?_
  refine lv_iload_n hx hb dX12_four_16 rfl (lv_at hl 0 rfl) ?_
  refine lv_ishr hx hb dX12_four_17 ?_
  refine lv_topi (fun x_23 e_24 => ?_)
  obtain ⟨x_25, e_26⟩ : ∃ z : Int32, (Int32.toInt8 x_23).toInt32 = z := ⟨_, rfl⟩
  refine lv_i2b (v := x_25) hx hb dX12_four_18 e_26 ?_
  refine va_bast hx hb hK hP hD hS 1 0 rfl rfl (vi_c rfl) dX12_four_19 (fun H locs hP hD hS => ?_)
  have hP : va_P D vwCl [(m0, .inr (10, [.ref mTa, .int 15, .int 0, .ref mSi, .ref mLe, .ref mCl, .ref mCs, .ref mRe, .int 0, .int 0, .int 0, .int 0, .int 0, .int 0, .int 0, .ref mOp, .int 0, .ref mSt, .int 0, .ref mWo, .ref mSa, .int 0, .ref mWa, .int 0, .ref mFa, .ref mQu, .ref mIs, .int 0, .int 0, .long 0, .ref mIm, .ref mIx, .ref mMa])), (mTa, .inl (kmTa, 400, .inl (upd g_20 15 (vp_nar .byte x_25))))] H := hP
  have hD : va_D A [(m0, .inr (10, [.ref mTa, .int 15, .int 0, .ref mSi, .ref mLe, .ref mCl, .ref mCs, .ref mRe, .int 0, .int 0, .int 0, .int 0, .int 0, .int 0, .int 0, .ref mOp, .int 0, .ref mSt, .int 0, .ref mWo, .ref mSa, .int 0, .ref mWa, .int 0, .ref mFa, .ref mQu, .ref mIs, .int 0, .int 0, .long 0, .ref mIm, .ref mIx, .ref mMa])), (mTa, .inl (kmTa, 400, .inl (upd g_20 15 (vp_nar .byte x_25))))] := hD
  generalize upd g_20 15 (vp_nar .byte x_25) = g_27 at hP hD
  refine lv_aload_n hx hb dX12_four_20 rfl (lv_at hl 1 rfl) ?_
  refine lv_dup hx hb dX12_four_21 rfl ?_
  refine va_get (D := D) (ci := 10) (v := .int 15) (C := "WrongHoleModel") (T := TX12) (N := 33) hx hb hts (iq_RX12 _) hown hK hP 0 rfl rfl 1 (by decide) (hT _ qq_5_153) (fun _ h9 => h9) rfl dX12_four_22 ?_
  refine lv_iconst (v := 1) hx hb dX12_four_25 (by decide) ?_
  refine lv_iadd hx hb dX12_four_26 ?_
  refine tc_i 16 (by decide) ?_
  refine va_put (D := D) (ci := 10) (v := .int 16) (ty := .int) (C := "WrongHoleModel") (T := TX12) (N := 33) hx hb hts (iq_RX12 _) tyX12 tyX12_ok nmX12 hown hK hP hD hS 0 rfl rfl 1 (by decide) (hT _ qq_5_153) (fun _ h9 => h9) rfl (by decide +kernel) rfl rfl (Nat.le_of_ble_eq_true rfl) dX12_four_27 (fun H locs hP hD hS => ?_)
  have hP : va_P D vwCl [(m0, .inr (10, [.ref mTa, .int 16, .int 0, .ref mSi, .ref mLe, .ref mCl, .ref mCs, .ref mRe, .int 0, .int 0, .int 0, .int 0, .int 0, .int 0, .int 0, .ref mOp, .int 0, .ref mSt, .int 0, .ref mWo, .ref mSa, .int 0, .ref mWa, .int 0, .ref mFa, .ref mQu, .ref mIs, .int 0, .int 0, .long 0, .ref mIm, .ref mIx, .ref mMa])), (mTa, .inl (kmTa, 400, .inl g_27))] H := hP
  have hD : va_D A [(m0, .inr (10, [.ref mTa, .int 16, .int 0, .ref mSi, .ref mLe, .ref mCl, .ref mCs, .ref mRe, .int 0, .int 0, .int 0, .int 0, .int 0, .int 0, .int 0, .ref mOp, .int 0, .ref mSt, .int 0, .ref mWo, .ref mSa, .int 0, .ref mWa, .int 0, .ref mFa, .ref mQu, .ref mIs, .int 0, .int 0, .long 0, .ref mIm, .ref mIx, .ref mMa])), (mTa, .inl (kmTa, 400, .inl g_27))] := hD
  refine lv_iinc (v := (-8)) (lv' := [(2, .int (-8)), (0, .ref m0), (1, .int v)]) hx hb dX12_four_30 hl (k := 0) rfl (by decide) (by decide) rfl (fun ls hl => ?_)
  refine lv_goto (tgt := 3) hx hb dX12_four_33 (by decide) ?_
  refine lv_iload_n hx hb dX12_four_3 rfl (lv_at hl 0 rfl) ?_
  refine lv_if_lt (tgt := 36) hx hb dX12_four_4 (by decide) (fun _ => ?_) (fun c_29 => absurd (by decide) c_29)
  refine W.widen (k := 0) (n := 0) (Nat.le_of_ble_eq_true rfl) (Nat.le_of_ble_eq_true rfl) ?_
  have hP9 := hP.sub (ws' := [(m0, .inr (10, [.ref mTa, .int 16, .int 0, .ref mSi, .ref mLe, .ref mCl, .ref mCs, .ref mRe, .int 0, .int 0, .int 0, .int 0, .int 0, .int 0, .int 0, .ref mOp, .int 0, .ref mSt, .int 0, .ref mWo, .ref mSa, .int 0, .ref mWa, .int 0, .ref mFa, .ref mQu, .ref mIs, .int 0, .int 0, .long 0, .ref mIm, .ref mIx, .ref mMa])), (mTa, .inl (kmTa, 400, .inl g_27))]) [0, 1] rfl
  have hD9 := hD.sub (ws' := [(m0, .inr (10, [.ref mTa, .int 16, .int 0, .ref mSi, .ref mLe, .ref mCl, .ref mCs, .ref mRe, .int 0, .int 0, .int 0, .int 0, .int 0, .int 0, .int 0, .ref mOp, .int 0, .ref mSt, .int 0, .ref mWo, .ref mSa, .int 0, .ref mWa, .int 0, .ref mFa, .ref mQu, .ref mIs, .int 0, .int 0, .long 0, .ref mIm, .ref mIx, .ref mMa])), (mTa, .inl (kmTa, 400, .inl g_27))]) [0, 1] (by decide) rfl
  have hK9 := hK.sub (tys' := [(kmTa, .byte)]) [0] rfl
  exact W.vret hx hb hr (fun t9 ht9 hW9 => ⟨⟨(), rfl, trivial, ⟨g_27, by rw [ht9]; exact hP9, va_K.moved hW9.alike hK9, hD9⟩⟩, hS.F ht9⟩) hS.2.2 dX12_four_36
set_option maxHeartbeats 4000000 in
set_option maxRecDepth 100000 in
theorem c_four_16 (l : Launch) (D : va_G) (ad : Nat → Nat) (sz : Nat) (m0 : Nat) (mTa : Nat) (mSi : Nat) (mLe : Nat) (mCl : Nat) (mCs : Nat) (mRe : Nat) (mOp : Nat) (mSt : Nat) (mWo : Nat) (mSa : Nat) (mWa : Nat) (mFa : Nat) (mQu : Nat) (mIs : Nat) (mIm : Nat) (mIx : Nat) (mMa : Nat) (kmTa : ClassId) (f : Nat → Int32) (v : Int32)  : Met l yX12_four (Cond.code yX12_four cX12_four 3 none :: TB) (RM 0 0 0) (va_Pc [.ref m0, .int v] (PRE D ad [(m0, .inr (10, [.ref mTa, .int 16, .int 0, .ref mSi, .ref mLe, .ref mCl, .ref mCs, .ref mRe, .int 0, .int 0, .int 0, .int 0, .int 0, .int 0, .int 0, .ref mOp, .int 0, .ref mSt, .int 0, .ref mWo, .ref mSa, .int 0, .ref mWa, .int 0, .ref mFa, .ref mQu, .ref mIs, .int 0, .int 0, .long 0, .ref mIm, .ref mIx, .ref mMa])), (mTa, .inl (kmTa, 400, .inl f))] [(kmTa, .byte)] sz)) (va_Qv (S := Unit) (fun _ => True) (fun _ t => ∃ (g : Nat → Int32), va_P D vwCl [(m0, .inr (10, [.ref mTa, .int 20, .int 0, .ref mSi, .ref mLe, .ref mCl, .ref mCs, .ref mRe, .int 0, .int 0, .int 0, .int 0, .int 0, .int 0, .int 0, .ref mOp, .int 0, .ref mSt, .int 0, .ref mWo, .ref mSa, .int 0, .ref mWa, .int 0, .ref mFa, .ref mQu, .ref mIs, .int 0, .int 0, .long 0, .ref mIm, .ref mIx, .ref mMa])), (mTa, .inl (kmTa, 400, .inl g))] t.heap ∧ va_K D vwCl [(kmTa, .byte)] t ∧ va_D (va_A [(m0, .inr (10, [.ref mTa, .int 16, .int 0, .ref mSi, .ref mLe, .ref mCl, .ref mCs, .ref mRe, .int 0, .int 0, .int 0, .int 0, .int 0, .int 0, .int 0, .ref mOp, .int 0, .ref mSt, .int 0, .ref mWo, .ref mSa, .int 0, .ref mWa, .int 0, .ref mFa, .ref mQu, .ref mIs, .int 0, .int 0, .long 0, .ref mIm, .ref mIx, .ref mMa])), (mTa, .inl (kmTa, 400, .inl f))] sz) [(m0, .inr (10, [.ref mTa, .int 20, .int 0, .ref mSi, .ref mLe, .ref mCl, .ref mCs, .ref mRe, .int 0, .int 0, .int 0, .int 0, .int 0, .int 0, .int 0, .ref mOp, .int 0, .ref mSt, .int 0, .ref mWo, .ref mSa, .int 0, .ref mWa, .int 0, .ref mFa, .ref mQu, .ref mIs, .int 0, .int 0, .long 0, .ref mIm, .ref mIx, .ref mMa])), (mTa, .inl (kmTa, 400, .inl g))]) (va_A [(m0, .inr (10, [.ref mTa, .int 16, .int 0, .ref mSi, .ref mLe, .ref mCl, .ref mCs, .ref mRe, .int 0, .int 0, .int 0, .int 0, .int 0, .int 0, .int 0, .ref mOp, .int 0, .ref mSt, .int 0, .ref mWo, .ref mSa, .int 0, .ref mWa, .int 0, .ref mFa, .ref mQu, .ref mIs, .int 0, .int 0, .long 0, .ref mIm, .ref mIx, .ref mMa])), (mTa, .inl (kmTa, 400, .inl f))] sz)) 0 0 (va_A [(m0, .inr (10, [.ref mTa, .int 16, .int 0, .ref mSi, .ref mLe, .ref mCl, .ref mCs, .ref mRe, .int 0, .int 0, .int 0, .int 0, .int 0, .int 0, .int 0, .ref mOp, .int 0, .ref mSt, .int 0, .ref mWo, .ref mSa, .int 0, .ref mWa, .int 0, .ref mFa, .ref mQu, .ref mIs, .int 0, .int 0, .long 0, .ref mIm, .ref mIx, .ref mMa])), (mTa, .inl (kmTa, 400, .inl f))] sz) := by
  refine MET (y := yX12_four) (cc := cX12_four) (maxL := 3) (ret := none) (d := 0) (mc := 0) (ms := 0) (D := D) (ad := ad) (ws := [(m0, .inr (10, [.ref mTa, .int 16, .int 0, .ref mSi, .ref mLe, .ref mCl, .ref mCs, .ref mRe, .int 0, .int 0, .int 0, .int 0, .int 0, .int 0, .int 0, .ref mOp, .int 0, .ref mSt, .int 0, .ref mWo, .ref mSa, .int 0, .ref mWa, .int 0, .ref mFa, .ref mQu, .ref mIs, .int 0, .int 0, .long 0, .ref mIm, .ref mIx, .ref mMa])), (mTa, .inl (kmTa, 400, .inl f))]) (tys := [(kmTa, .byte)]) (sz := sz) (av := [.ref m0, .int v]) (Qc := fun A => va_Qv (S := Unit) (fun _ => True) (fun _ t => ∃ (g : Nat → Int32), va_P D vwCl [(m0, .inr (10, [.ref mTa, .int 20, .int 0, .ref mSi, .ref mLe, .ref mCl, .ref mCs, .ref mRe, .int 0, .int 0, .int 0, .int 0, .int 0, .int 0, .int 0, .ref mOp, .int 0, .ref mSt, .int 0, .ref mWo, .ref mSa, .int 0, .ref mWa, .int 0, .ref mFa, .ref mQu, .ref mIs, .int 0, .int 0, .long 0, .ref mIm, .ref mIx, .ref mMa])), (mTa, .inl (kmTa, 400, .inl g))] t.heap ∧ va_K D vwCl [(kmTa, .byte)] t ∧ va_D A [(m0, .inr (10, [.ref mTa, .int 20, .int 0, .ref mSi, .ref mLe, .ref mCl, .ref mCs, .ref mRe, .int 0, .int 0, .int 0, .int 0, .int 0, .int 0, .int 0, .ref mOp, .int 0, .ref mSt, .int 0, .ref mWo, .ref mSa, .int 0, .ref mWa, .int 0, .ref mFa, .ref mQu, .ref mIs, .int 0, .int 0, .long 0, .ref mIm, .ref mIx, .ref mMa])), (mTa, .inl (kmTa, 400, .inl g))]) A) (fr := fun A => A) (by decide) (Nat.le_of_ble_eq_true rfl) ?_
  intro p e s m below meth c ls A H hHe hx hb hr hml hown hts hlocks hnm hP hK hD hA hS hN hl
  have hown : s.vm.findClass "WrongHoleModel" = some m.cls := hown
  have hT : ∀ w ∈ TB, w.before ([.ref m0, .int v] : List Value).toArray s = true := fun w h => hts w (List.mem_cons_of_mem _ h)
  have hl : lv_has ls 3 [(0, .ref m0), (1, .int v)] := hl
  have hP : va_P D vwCl [(m0, .inr (10, [.ref mTa, .int 16, .int 0, .ref mSi, .ref mLe, .ref mCl, .ref mCs, .ref mRe, .int 0, .int 0, .int 0, .int 0, .int 0, .int 0, .int 0, .ref mOp, .int 0, .ref mSt, .int 0, .ref mWo, .ref mSa, .int 0, .ref mWa, .int 0, .ref mFa, .ref mQu, .ref mIs, .int 0, .int 0, .long 0, .ref mIm, .ref mIx, .ref mMa])), (mTa, .inl (kmTa, 400, .inl f))] H := hP
  refine lv_bipush (v := 24) hx hb dX12_four_0 (by decide) ?_
  refine lv_istore_n (lv' := [(2, .int 24), (0, .ref m0), (1, .int v)]) hx hb dX12_four_2 rfl hl (by decide) rfl (fun ls hl => ?_)
  refine lv_iload_n hx hb dX12_four_3 rfl (lv_at hl 0 rfl) ?_
  refine lv_if_lt (tgt := 36) hx hb dX12_four_4 (by decide) (fun c_1 => absurd c_1 (by decide)) (fun _ => ?_)
  refine lv_aload_n hx hb dX12_four_7 rfl (lv_at hl 1 rfl) ?_
  refine va_get (D := D) (ci := 10) (v := .ref mTa) (C := "WrongHoleModel") (T := TX12) (N := 33) hx hb hts (iq_RX12 _) hown hK hP 0 rfl rfl 0 (by decide) (hT _ qq_5_152) (fun _ h9 => h9) rfl dX12_four_8 ?_
  refine lv_aload_n hx hb dX12_four_11 rfl (lv_at hl 1 rfl) ?_
  refine va_get (D := D) (ci := 10) (v := .int 16) (C := "WrongHoleModel") (T := TX12) (N := 33) hx hb hts (iq_RX12 _) hown hK hP 0 rfl rfl 1 (by decide) (hT _ qq_5_153) (fun _ h9 => h9) rfl dX12_four_12 ?_
  refine lv_iload_n hx hb dX12_four_15 rfl (lv_at hl 2 rfl) ?_
  refine lv_iload_n hx hb dX12_four_16 rfl (lv_at hl 0 rfl) ?_
  refine lv_ishr hx hb dX12_four_17 ?_
  refine lv_topi (fun x_2 e_3 => ?_)
  obtain ⟨x_4, e_5⟩ : ∃ z : Int32, (Int32.toInt8 x_2).toInt32 = z := ⟨_, rfl⟩
  refine lv_i2b (v := x_4) hx hb dX12_four_18 e_5 ?_
  refine va_bast hx hb hK hP hD hS 1 0 rfl rfl (vi_c rfl) dX12_four_19 (fun H locs hP hD hS => ?_)
  have hP : va_P D vwCl [(m0, .inr (10, [.ref mTa, .int 16, .int 0, .ref mSi, .ref mLe, .ref mCl, .ref mCs, .ref mRe, .int 0, .int 0, .int 0, .int 0, .int 0, .int 0, .int 0, .ref mOp, .int 0, .ref mSt, .int 0, .ref mWo, .ref mSa, .int 0, .ref mWa, .int 0, .ref mFa, .ref mQu, .ref mIs, .int 0, .int 0, .long 0, .ref mIm, .ref mIx, .ref mMa])), (mTa, .inl (kmTa, 400, .inl (upd f 16 (vp_nar .byte x_4))))] H := hP
  have hD : va_D A [(m0, .inr (10, [.ref mTa, .int 16, .int 0, .ref mSi, .ref mLe, .ref mCl, .ref mCs, .ref mRe, .int 0, .int 0, .int 0, .int 0, .int 0, .int 0, .int 0, .ref mOp, .int 0, .ref mSt, .int 0, .ref mWo, .ref mSa, .int 0, .ref mWa, .int 0, .ref mFa, .ref mQu, .ref mIs, .int 0, .int 0, .long 0, .ref mIm, .ref mIx, .ref mMa])), (mTa, .inl (kmTa, 400, .inl (upd f 16 (vp_nar .byte x_4))))] := hD
  generalize upd f 16 (vp_nar .byte x_4) = g_6 at hP hD
  refine lv_aload_n hx hb dX12_four_20 rfl (lv_at hl 1 rfl) ?_
  refine lv_dup hx hb dX12_four_21 rfl ?_
  refine va_get (D := D) (ci := 10) (v := .int 16) (C := "WrongHoleModel") (T := TX12) (N := 33) hx hb hts (iq_RX12 _) hown hK hP 0 rfl rfl 1 (by decide) (hT _ qq_5_153) (fun _ h9 => h9) rfl dX12_four_22 ?_
  refine lv_iconst (v := 1) hx hb dX12_four_25 (by decide) ?_
  refine lv_iadd hx hb dX12_four_26 ?_
  refine tc_i 17 (by decide) ?_
  refine va_put (D := D) (ci := 10) (v := .int 17) (ty := .int) (C := "WrongHoleModel") (T := TX12) (N := 33) hx hb hts (iq_RX12 _) tyX12 tyX12_ok nmX12 hown hK hP hD hS 0 rfl rfl 1 (by decide) (hT _ qq_5_153) (fun _ h9 => h9) rfl (by decide +kernel) rfl rfl (Nat.le_of_ble_eq_true rfl) dX12_four_27 (fun H locs hP hD hS => ?_)
  have hP : va_P D vwCl [(m0, .inr (10, [.ref mTa, .int 17, .int 0, .ref mSi, .ref mLe, .ref mCl, .ref mCs, .ref mRe, .int 0, .int 0, .int 0, .int 0, .int 0, .int 0, .int 0, .ref mOp, .int 0, .ref mSt, .int 0, .ref mWo, .ref mSa, .int 0, .ref mWa, .int 0, .ref mFa, .ref mQu, .ref mIs, .int 0, .int 0, .long 0, .ref mIm, .ref mIx, .ref mMa])), (mTa, .inl (kmTa, 400, .inl g_6))] H := hP
  have hD : va_D A [(m0, .inr (10, [.ref mTa, .int 17, .int 0, .ref mSi, .ref mLe, .ref mCl, .ref mCs, .ref mRe, .int 0, .int 0, .int 0, .int 0, .int 0, .int 0, .int 0, .ref mOp, .int 0, .ref mSt, .int 0, .ref mWo, .ref mSa, .int 0, .ref mWa, .int 0, .ref mFa, .ref mQu, .ref mIs, .int 0, .int 0, .long 0, .ref mIm, .ref mIx, .ref mMa])), (mTa, .inl (kmTa, 400, .inl g_6))] := hD
  refine lv_iinc (v := 16) (lv' := [(2, .int 16), (0, .ref m0), (1, .int v)]) hx hb dX12_four_30 hl (k := 0) rfl (by decide) (by decide) rfl (fun ls hl => ?_)
  refine lv_goto (tgt := 3) hx hb dX12_four_33 (by decide) ?_
  refine lv_iload_n hx hb dX12_four_3 rfl (lv_at hl 0 rfl) ?_
  refine lv_if_lt (tgt := 36) hx hb dX12_four_4 (by decide) (fun c_8 => absurd c_8 (by decide)) (fun _ => ?_)
  refine lv_aload_n hx hb dX12_four_7 rfl (lv_at hl 1 rfl) ?_
  refine va_get (D := D) (ci := 10) (v := .ref mTa) (C := "WrongHoleModel") (T := TX12) (N := 33) hx hb hts (iq_RX12 _) hown hK hP 0 rfl rfl 0 (by decide) (hT _ qq_5_152) (fun _ h9 => h9) rfl dX12_four_8 ?_
  refine lv_aload_n hx hb dX12_four_11 rfl (lv_at hl 1 rfl) ?_
  refine va_get (D := D) (ci := 10) (v := .int 17) (C := "WrongHoleModel") (T := TX12) (N := 33) hx hb hts (iq_RX12 _) hown hK hP 0 rfl rfl 1 (by decide) (hT _ qq_5_153) (fun _ h9 => h9) rfl dX12_four_12 ?_
  refine lv_iload_n hx hb dX12_four_15 rfl (lv_at hl 2 rfl) ?_
  refine lv_iload_n hx hb dX12_four_16 rfl (lv_at hl 0 rfl) ?_
  refine lv_ishr hx hb dX12_four_17 ?_
  refine lv_topi (fun x_9 e_10 => ?_)
  obtain ⟨x_11, e_12⟩ : ∃ z : Int32, (Int32.toInt8 x_9).toInt32 = z := ⟨_, rfl⟩
  refine lv_i2b (v := x_11) hx hb dX12_four_18 e_12 ?_
  refine va_bast hx hb hK hP hD hS 1 0 rfl rfl (vi_c rfl) dX12_four_19 (fun H locs hP hD hS => ?_)
  have hP : va_P D vwCl [(m0, .inr (10, [.ref mTa, .int 17, .int 0, .ref mSi, .ref mLe, .ref mCl, .ref mCs, .ref mRe, .int 0, .int 0, .int 0, .int 0, .int 0, .int 0, .int 0, .ref mOp, .int 0, .ref mSt, .int 0, .ref mWo, .ref mSa, .int 0, .ref mWa, .int 0, .ref mFa, .ref mQu, .ref mIs, .int 0, .int 0, .long 0, .ref mIm, .ref mIx, .ref mMa])), (mTa, .inl (kmTa, 400, .inl (upd g_6 17 (vp_nar .byte x_11))))] H := hP
  have hD : va_D A [(m0, .inr (10, [.ref mTa, .int 17, .int 0, .ref mSi, .ref mLe, .ref mCl, .ref mCs, .ref mRe, .int 0, .int 0, .int 0, .int 0, .int 0, .int 0, .int 0, .ref mOp, .int 0, .ref mSt, .int 0, .ref mWo, .ref mSa, .int 0, .ref mWa, .int 0, .ref mFa, .ref mQu, .ref mIs, .int 0, .int 0, .long 0, .ref mIm, .ref mIx, .ref mMa])), (mTa, .inl (kmTa, 400, .inl (upd g_6 17 (vp_nar .byte x_11))))] := hD
  generalize upd g_6 17 (vp_nar .byte x_11) = g_13 at hP hD
  refine lv_aload_n hx hb dX12_four_20 rfl (lv_at hl 1 rfl) ?_
  refine lv_dup hx hb dX12_four_21 rfl ?_
  refine va_get (D := D) (ci := 10) (v := .int 17) (C := "WrongHoleModel") (T := TX12) (N := 33) hx hb hts (iq_RX12 _) hown hK hP 0 rfl rfl 1 (by decide) (hT _ qq_5_153) (fun _ h9 => h9) rfl dX12_four_22 ?_
  refine lv_iconst (v := 1) hx hb dX12_four_25 (by decide) ?_
  refine lv_iadd hx hb dX12_four_26 ?_
  refine tc_i 18 (by decide) ?_
  refine va_put (D := D) (ci := 10) (v := .int 18) (ty := .int) (C := "WrongHoleModel") (T := TX12) (N := 33) hx hb hts (iq_RX12 _) tyX12 tyX12_ok nmX12 hown hK hP hD hS 0 rfl rfl 1 (by decide) (hT _ qq_5_153) (fun _ h9 => h9) rfl (by decide +kernel) rfl rfl (Nat.le_of_ble_eq_true rfl) dX12_four_27 (fun H locs hP hD hS => ?_)
  have hP : va_P D vwCl [(m0, .inr (10, [.ref mTa, .int 18, .int 0, .ref mSi, .ref mLe, .ref mCl, .ref mCs, .ref mRe, .int 0, .int 0, .int 0, .int 0, .int 0, .int 0, .int 0, .ref mOp, .int 0, .ref mSt, .int 0, .ref mWo, .ref mSa, .int 0, .ref mWa, .int 0, .ref mFa, .ref mQu, .ref mIs, .int 0, .int 0, .long 0, .ref mIm, .ref mIx, .ref mMa])), (mTa, .inl (kmTa, 400, .inl g_13))] H := hP
  have hD : va_D A [(m0, .inr (10, [.ref mTa, .int 18, .int 0, .ref mSi, .ref mLe, .ref mCl, .ref mCs, .ref mRe, .int 0, .int 0, .int 0, .int 0, .int 0, .int 0, .int 0, .ref mOp, .int 0, .ref mSt, .int 0, .ref mWo, .ref mSa, .int 0, .ref mWa, .int 0, .ref mFa, .ref mQu, .ref mIs, .int 0, .int 0, .long 0, .ref mIm, .ref mIx, .ref mMa])), (mTa, .inl (kmTa, 400, .inl g_13))] := hD
  refine lv_iinc (v := 8) (lv' := [(2, .int 8), (0, .ref m0), (1, .int v)]) hx hb dX12_four_30 hl (k := 0) rfl (by decide) (by decide) rfl (fun ls hl => ?_)
  refine lv_goto (tgt := 3) hx hb dX12_four_33 (by decide) ?_
  refine lv_iload_n hx hb dX12_four_3 rfl (lv_at hl 0 rfl) ?_
  refine lv_if_lt (tgt := 36) hx hb dX12_four_4 (by decide) (fun c_15 => absurd c_15 (by decide)) (fun _ => ?_)
  refine lv_aload_n hx hb dX12_four_7 rfl (lv_at hl 1 rfl) ?_
  refine va_get (D := D) (ci := 10) (v := .ref mTa) (C := "WrongHoleModel") (T := TX12) (N := 33) hx hb hts (iq_RX12 _) hown hK hP 0 rfl rfl 0 (by decide) (hT _ qq_5_152) (fun _ h9 => h9) rfl dX12_four_8 ?_
  refine lv_aload_n hx hb dX12_four_11 rfl (lv_at hl 1 rfl) ?_
  refine va_get (D := D) (ci := 10) (v := .int 18) (C := "WrongHoleModel") (T := TX12) (N := 33) hx hb hts (iq_RX12 _) hown hK hP 0 rfl rfl 1 (by decide) (hT _ qq_5_153) (fun _ h9 => h9) rfl dX12_four_12 ?_
  refine lv_iload_n hx hb dX12_four_15 rfl (lv_at hl 2 rfl) ?_
  refine lv_iload_n hx hb dX12_four_16 rfl (lv_at hl 0 rfl) ?_
  refine lv_ishr hx hb dX12_four_17 ?_
  refine lv_topi (fun x_16 e_17 => ?_)
  obtain ⟨x_18, e_19⟩ : ∃ z : Int32, (Int32.toInt8 x_16).toInt32 = z := ⟨_, rfl⟩
  refine lv_i2b (v := x_18) hx hb dX12_four_18 e_19 ?_
  refine va_bast hx hb hK hP hD hS 1 0 rfl rfl (vi_c rfl) dX12_four_19 (fun H locs hP hD hS => ?_)
  have hP : va_P D vwCl [(m0, .inr (10, [.ref mTa, .int 18, .int 0, .ref mSi, .ref mLe, .ref mCl, .ref mCs, .ref mRe, .int 0, .int 0, .int 0, .int 0, .int 0, .int 0, .int 0, .ref mOp, .int 0, .ref mSt, .int 0, .ref mWo, .ref mSa, .int 0, .ref mWa, .int 0, .ref mFa, .ref mQu, .ref mIs, .int 0, .int 0, .long 0, .ref mIm, .ref mIx, .ref mMa])), (mTa, .inl (kmTa, 400, .inl (upd g_13 18 (vp_nar .byte x_18))))] H := hP
  have hD : va_D A [(m0, .inr (10, [.ref mTa, .int 18, .int 0, .ref mSi, .ref mLe, .ref mCl, .ref mCs, .ref mRe, .int 0, .int 0, .int 0, .int 0, .int 0, .int 0, .int 0, .ref mOp, .int 0, .ref mSt, .int 0, .ref mWo, .ref mSa, .int 0, .ref mWa, .int 0, .ref mFa, .ref mQu, .ref mIs, .int 0, .int 0, .long 0, .ref mIm, .ref mIx, .ref mMa])), (mTa, .inl (kmTa, 400, .inl (upd g_13 18 (vp_nar .byte x_18))))] := hD
  generalize upd g_13 18 (vp_nar .byte x_18) = g_20 at hP hD
  refine lv_aload_n hx hb dX12_four_20 rfl (lv_at hl 1 rfl) ?_
  refine lv_dup hx hb dX12_four_21 rfl ?_
  refine va_get (D := D) (ci := 10) (v := .int 18) (C := "WrongHoleModel") (T := TX12) (N := 33) hx hb hts (iq_RX12 _) hown hK hP 0 rfl rfl 1 (by decide) (hT _ qq_5_153) (fun _ h9 => h9) rfl dX12_four_22 ?_
  refine lv_iconst (v := 1) hx hb dX12_four_25 (by decide) ?_
  refine lv_iadd hx hb dX12_four_26 ?_
  refine tc_i 19 (by decide) ?_
  refine va_put (D := D) (ci := 10) (v := .int 19) (ty := .int) (C := "WrongHoleModel") (T := TX12) (N := 33) hx hb hts (iq_RX12 _) tyX12 tyX12_ok nmX12 hown hK hP hD hS 0 rfl rfl 1 (by decide) (hT _ qq_5_153) (fun _ h9 => h9) rfl (by decide +kernel) rfl rfl (Nat.le_of_ble_eq_true rfl) dX12_four_27 (fun H locs hP hD hS => ?_)
  have hP : va_P D vwCl [(m0, .inr (10, [.ref mTa, .int 19, .int 0, .ref mSi, .ref mLe, .ref mCl, .ref mCs, .ref mRe, .int 0, .int 0, .int 0, .int 0, .int 0, .int 0, .int 0, .ref mOp, .int 0, .ref mSt, .int 0, .ref mWo, .ref mSa, .int 0, .ref mWa, .int 0, .ref mFa, .ref mQu, .ref mIs, .int 0, .int 0, .long 0, .ref mIm, .ref mIx, .ref mMa])), (mTa, .inl (kmTa, 400, .inl g_20))] H := hP
  have hD : va_D A [(m0, .inr (10, [.ref mTa, .int 19, .int 0, .ref mSi, .ref mLe, .ref mCl, .ref mCs, .ref mRe, .int 0, .int 0, .int 0, .int 0, .int 0, .int 0, .int 0, .ref mOp, .int 0, .ref mSt, .int 0, .ref mWo, .ref mSa, .int 0, .ref mWa, .int 0, .ref mFa, .ref mQu, .ref mIs, .int 0, .int 0, .long 0, .ref mIm, .ref mIx, .ref mMa])), (mTa, .inl (kmTa, 400, .inl g_20))] := hD
  refine lv_iinc (v := 0) (lv' := [(2, .int 0), (0, .ref m0), (1, .int v)]) hx hb dX12_four_30 hl (k := 0) rfl (by decide) (by decide) rfl (fun ls hl => ?_)
  refine lv_goto (tgt := 3) hx hb dX12_four_33 (by decide) ?_
  refine lv_iload_n hx hb dX12_four_3 rfl (lv_at hl 0 rfl) ?_
  refine lv_if_lt (tgt := 36) hx hb dX12_four_4 (by decide) (fun c_22 => absurd c_22 (by decide)) (fun _ => ?_)
  refine lv_aload_n hx hb dX12_four_7 rfl (lv_at hl 1 rfl) ?_
  refine va_get (D := D) (ci := 10) (v := .ref mTa) (C := "WrongHoleModel") (T := TX12) (N := 33) hx hb hts (iq_RX12 _) hown hK hP 0 rfl rfl 0 (by decide) (hT _ qq_5_152) (fun _ h9 => h9) rfl dX12_four_8 ?_
  refine lv_aload_n hx hb dX12_four_11 rfl (lv_at hl 1 rfl) ?_
  refine va_get (D := D) (ci := 10) (v := .int 19) (C := "WrongHoleModel") (T := TX12) (N := 33) hx hb hts (iq_RX12 _) hown hK hP 0 rfl rfl 1 (by decide) (hT _ qq_5_153) (fun _ h9 => h9) rfl dX12_four_12 ?_
  refine lv_iload_n hx hb dX12_four_15 rfl (lv_at hl 2 rfl) ?_
  refine lv_iload_n hx hb dX12_four_16 rfl (lv_at hl 0 rfl) ?_
  refine lv_ishr hx hb dX12_four_17 ?_
  refine lv_topi (fun x_23 e_24 => ?_)
  obtain ⟨x_25, e_26⟩ : ∃ z : Int32, (Int32.toInt8 x_23).toInt32 = z := ⟨_, rfl⟩
  refine lv_i2b (v := x_25) hx hb dX12_four_18 e_26 ?_
  refine va_bast hx hb hK hP hD hS 1 0 rfl rfl (vi_c rfl) dX12_four_19 (fun H locs hP hD hS => ?_)
  have hP : va_P D vwCl [(m0, .inr (10, [.ref mTa, .int 19, .int 0, .ref mSi, .ref mLe, .ref mCl, .ref mCs, .ref mRe, .int 0, .int 0, .int 0, .int 0, .int 0, .int 0, .int 0, .ref mOp, .int 0, .ref mSt, .int 0, .ref mWo, .ref mSa, .int 0, .ref mWa, .int 0, .ref mFa, .ref mQu, .ref mIs, .int 0, .int 0, .long 0, .ref mIm, .ref mIx, .ref mMa])), (mTa, .inl (kmTa, 400, .inl (upd g_20 19 (vp_nar .byte x_25))))] H := hP
  have hD : va_D A [(m0, .inr (10, [.ref mTa, .int 19, .int 0, .ref mSi, .ref mLe, .ref mCl, .ref mCs, .ref mRe, .int 0, .int 0, .int 0, .int 0, .int 0, .int 0, .int 0, .ref mOp, .int 0, .ref mSt, .int 0, .ref mWo, .ref mSa, .int 0, .ref mWa, .int 0, .ref mFa, .ref mQu, .ref mIs, .int 0, .int 0, .long 0, .ref mIm, .ref mIx, .ref mMa])), (mTa, .inl (kmTa, 400, .inl (upd g_20 19 (vp_nar .byte x_25))))] := hD
  generalize upd g_20 19 (vp_nar .byte x_25) = g_27 at hP hD
  refine lv_aload_n hx hb dX12_four_20 rfl (lv_at hl 1 rfl) ?_
  refine lv_dup hx hb dX12_four_21 rfl ?_
  refine va_get (D := D) (ci := 10) (v := .int 19) (C := "WrongHoleModel") (T := TX12) (N := 33) hx hb hts (iq_RX12 _) hown hK hP 0 rfl rfl 1 (by decide) (hT _ qq_5_153) (fun _ h9 => h9) rfl dX12_four_22 ?_
  refine lv_iconst (v := 1) hx hb dX12_four_25 (by decide) ?_
  refine lv_iadd hx hb dX12_four_26 ?_
  refine tc_i 20 (by decide) ?_
  refine va_put (D := D) (ci := 10) (v := .int 20) (ty := .int) (C := "WrongHoleModel") (T := TX12) (N := 33) hx hb hts (iq_RX12 _) tyX12 tyX12_ok nmX12 hown hK hP hD hS 0 rfl rfl 1 (by decide) (hT _ qq_5_153) (fun _ h9 => h9) rfl (by decide +kernel) rfl rfl (Nat.le_of_ble_eq_true rfl) dX12_four_27 (fun H locs hP hD hS => ?_)
  have hP : va_P D vwCl [(m0, .inr (10, [.ref mTa, .int 20, .int 0, .ref mSi, .ref mLe, .ref mCl, .ref mCs, .ref mRe, .int 0, .int 0, .int 0, .int 0, .int 0, .int 0, .int 0, .ref mOp, .int 0, .ref mSt, .int 0, .ref mWo, .ref mSa, .int 0, .ref mWa, .int 0, .ref mFa, .ref mQu, .ref mIs, .int 0, .int 0, .long 0, .ref mIm, .ref mIx, .ref mMa])), (mTa, .inl (kmTa, 400, .inl g_27))] H := hP
  have hD : va_D A [(m0, .inr (10, [.ref mTa, .int 20, .int 0, .ref mSi, .ref mLe, .ref mCl, .ref mCs, .ref mRe, .int 0, .int 0, .int 0, .int 0, .int 0, .int 0, .int 0, .ref mOp, .int 0, .ref mSt, .int 0, .ref mWo, .ref mSa, .int 0, .ref mWa, .int 0, .ref mFa, .ref mQu, .ref mIs, .int 0, .int 0, .long 0, .ref mIm, .ref mIx, .ref mMa])), (mTa, .inl (kmTa, 400, .inl g_27))] := hD
  refine lv_iinc (v := (-8)) (lv' := [(2, .int (-8)), (0, .ref m0), (1, .int v)]) hx hb dX12_four_30 hl (k := 0) rfl (by decide) (by decide) rfl (fun ls hl => ?_)
  refine lv_goto (tgt := 3) hx hb dX12_four_33 (by decide) ?_
  refine lv_iload_n hx hb dX12_four_3 rfl (lv_at hl 0 rfl) ?_
  refine lv_if_lt (tgt := 36) hx hb dX12_four_4 (by decide) (fun _ => ?_) (fun c_29 => absurd (by decide) c_29)
  refine W.widen (k := 0) (n := 0) (Nat.le_of_ble_eq_true rfl) (Nat.le_of_ble_eq_true rfl) ?_
  have hP9 := hP.sub (ws' := [(m0, .inr (10, [.ref mTa, .int 20, .int 0, .ref mSi, .ref mLe, .ref mCl, .ref mCs, .ref mRe, .int 0, .int 0, .int 0, .int 0, .int 0, .int 0, .int 0, .ref mOp, .int 0, .ref mSt, .int 0, .ref mWo, .ref mSa, .int 0, .ref mWa, .int 0, .ref mFa, .ref mQu, .ref mIs, .int 0, .int 0, .long 0, .ref mIm, .ref mIx, .ref mMa])), (mTa, .inl (kmTa, 400, .inl g_27))]) [0, 1] rfl
  have hD9 := hD.sub (ws' := [(m0, .inr (10, [.ref mTa, .int 20, .int 0, .ref mSi, .ref mLe, .ref mCl, .ref mCs, .ref mRe, .int 0, .int 0, .int 0, .int 0, .int 0, .int 0, .int 0, .ref mOp, .int 0, .ref mSt, .int 0, .ref mWo, .ref mSa, .int 0, .ref mWa, .int 0, .ref mFa, .ref mQu, .ref mIs, .int 0, .int 0, .long 0, .ref mIm, .ref mIx, .ref mMa])), (mTa, .inl (kmTa, 400, .inl g_27))]) [0, 1] (by decide) rfl
  have hK9 := hK.sub (tys' := [(kmTa, .byte)]) [0] rfl
  exact W.vret hx hb hr (fun t9 ht9 hW9 => ⟨⟨(), rfl, trivial, ⟨g_27, by rw [ht9]; exact hP9, va_K.moved hW9.alike hK9, hD9⟩⟩, hS.F ht9⟩) hS.2.2 dX12_four_36
theorem dX12_feed_0 : decode cX12_feed 0 = .ok (.aload_n 0, 1) := by decide +kernel
theorem dX12_feed_1 : decode cX12_feed 1 = .ok (.getfield 65, 3) := by decide +kernel
theorem dX12_feed_4 : decode cX12_feed 4 = .ok (.bipush 20, 2) := by decide +kernel
theorem dX12_feed_6 : decode cX12_feed 6 = .ok (.iadd, 1) := by decide +kernel
theorem dX12_feed_7 : decode cX12_feed 7 = .ok (.sipush 400, 3) := by decide +kernel
theorem dX12_feed_10 : decode cX12_feed 10 = .ok (.if_icmp .le 5, 3) := by decide +kernel
theorem dX12_feed_15 : decode cX12_feed 15 = .ok (.aload_n 0, 1) := by decide +kernel
theorem dX12_feed_16 : decode cX12_feed 16 = .ok (.iload_n 1, 1) := by decide +kernel
theorem dX12_feed_17 : decode cX12_feed 17 = .ok (.invokevirtual 69, 3) := by decide +kernel
theorem qq_6_20 : Cond.code yX12_four cX12_four 3 none ∈ TB := mk_tb (ti_6 (List.mem_of_getElem? (i := 20) rfl)) rfl
theorem qq_1_9 : Cond.initialized "WrongHoleModel" ∈ TB := mk_tb (ti_1 (List.mem_of_getElem? (i := 9) rfl)) rfl
theorem qq_6_17 : Cond.methodLink "WrongHoleModel" 69 yX12_four ∈ TB := mk_tb (ti_6 (List.mem_of_getElem? (i := 17) rfl)) rfl
theorem qq_6_19 : Cond.instanceMethod yX12_four ∈ TB := mk_tb (ti_6 (List.mem_of_getElem? (i := 19) rfl)) rfl
theorem qs_1_15 : Cond.selects "WrongHoleModel" yX12_four yX12_four ∈ TB := mk_tb (ti_s (q := (yX12_four, 33)) (List.mem_append_right _ (List.mem_append_left _ (List.mem_of_getElem? (i := 15) rfl)))) rfl
theorem dX12_feed_20 : decode cX12_feed 20 = .ok (.aload_n 0, 1) := by decide +kernel
theorem dX12_feed_21 : decode cX12_feed 21 = .ok (.iload_n 2, 1) := by decide +kernel
theorem dX12_feed_22 : decode cX12_feed 22 = .ok (.invokevirtual 69, 3) := by decide +kernel
theorem dX12_feed_25 : decode cX12_feed 25 = .ok (.aload_n 0, 1) := by decide +kernel
theorem dX12_feed_26 : decode cX12_feed 26 = .ok (.iload_n 3, 1) := by decide +kernel
theorem dX12_feed_27 : decode cX12_feed 27 = .ok (.invokevirtual 69, 3) := by decide +kernel
theorem dX12_feed_30 : decode cX12_feed 30 = .ok (.aload_n 0, 1) := by decide +kernel
theorem dX12_feed_31 : decode cX12_feed 31 = .ok (.iload 4, 2) := by decide +kernel
theorem dX12_feed_33 : decode cX12_feed 33 = .ok (.invokevirtual 69, 3) := by decide +kernel
theorem dX12_feed_36 : decode cX12_feed 36 = .ok (.aload_n 0, 1) := by decide +kernel
theorem dX12_feed_37 : decode cX12_feed 37 = .ok (.iload 5, 2) := by decide +kernel
theorem dX12_feed_39 : decode cX12_feed 39 = .ok (.invokevirtual 69, 3) := by decide +kernel
theorem dX12_feed_42 : decode cX12_feed 42 = .ok (.aload_n 0, 1) := by decide +kernel
theorem dX12_feed_43 : decode cX12_feed 43 = .ok (.getfield 65, 3) := by decide +kernel
theorem dX12_feed_46 : decode cX12_feed 46 = .ok (.ireturn, 1) := by decide +kernel
set_option maxHeartbeats 4000000 in
set_option maxRecDepth 100000 in
theorem c_m_feed (l : Launch) (D : va_G) (ad : Nat → Nat) (sz : Nat) (m0 : Nat) (mTa : Nat) (mSi : Nat) (mLe : Nat) (mCl : Nat) (mCs : Nat) (mRe : Nat) (mOp : Nat) (mSt : Nat) (mWo : Nat) (mSa : Nat) (mWa : Nat) (mFa : Nat) (mQu : Nat) (mIs : Nat) (mIm : Nat) (mIx : Nat) (mMa : Nat) (kmTa : ClassId) (f : Nat → Int32) (a1 : Int32) (a2 : Int32) (a3 : Int32) (a4 : Int32) (a5 : Int32)  : Met l yX12_feed (Cond.code yX12_feed cX12_feed 6 (some .int) :: TB) (RM 1 0 0) (va_Pc [.ref m0, .int a1, .int a2, .int a3, .int a4, .int a5] (PRE D ad [(m0, .inr (10, [.ref mTa, .int 0, .int 0, .ref mSi, .ref mLe, .ref mCl, .ref mCs, .ref mRe, .int 0, .int 0, .int 0, .int 0, .int 0, .int 0, .int 0, .ref mOp, .int 0, .ref mSt, .int 0, .ref mWo, .ref mSa, .int 0, .ref mWa, .int 0, .ref mFa, .ref mQu, .ref mIs, .int 0, .int 0, .long 0, .ref mIm, .ref mIx, .ref mMa])), (mTa, .inl (kmTa, 400, .inl f))] [(kmTa, .byte)] sz)) (va_Qi (S := Unit) (fun r _ => r = 20) (fun _ t => True) (va_A [(m0, .inr (10, [.ref mTa, .int 0, .int 0, .ref mSi, .ref mLe, .ref mCl, .ref mCs, .ref mRe, .int 0, .int 0, .int 0, .int 0, .int 0, .int 0, .int 0, .ref mOp, .int 0, .ref mSt, .int 0, .ref mWo, .ref mSa, .int 0, .ref mWa, .int 0, .ref mFa, .ref mQu, .ref mIs, .int 0, .int 0, .long 0, .ref mIm, .ref mIx, .ref mMa])), (mTa, .inl (kmTa, 400, .inl f))] sz)) 0 0 (va_A [(m0, .inr (10, [.ref mTa, .int 0, .int 0, .ref mSi, .ref mLe, .ref mCl, .ref mCs, .ref mRe, .int 0, .int 0, .int 0, .int 0, .int 0, .int 0, .int 0, .ref mOp, .int 0, .ref mSt, .int 0, .ref mWo, .ref mSa, .int 0, .ref mWa, .int 0, .ref mFa, .ref mQu, .ref mIs, .int 0, .int 0, .long 0, .ref mIm, .ref mIx, .ref mMa])), (mTa, .inl (kmTa, 400, .inl f))] sz) := by
  refine MET (y := yX12_feed) (cc := cX12_feed) (maxL := 6) (ret := (some .int)) (d := 1) (mc := 0) (ms := 0) (D := D) (ad := ad) (ws := [(m0, .inr (10, [.ref mTa, .int 0, .int 0, .ref mSi, .ref mLe, .ref mCl, .ref mCs, .ref mRe, .int 0, .int 0, .int 0, .int 0, .int 0, .int 0, .int 0, .ref mOp, .int 0, .ref mSt, .int 0, .ref mWo, .ref mSa, .int 0, .ref mWa, .int 0, .ref mFa, .ref mQu, .ref mIs, .int 0, .int 0, .long 0, .ref mIm, .ref mIx, .ref mMa])), (mTa, .inl (kmTa, 400, .inl f))]) (tys := [(kmTa, .byte)]) (sz := sz) (av := [.ref m0, .int a1, .int a2, .int a3, .int a4, .int a5]) (Qc := fun A => va_Qi (S := Unit) (fun r _ => r = 20) (fun _ t => True) A) (fr := fun A => A) (by decide) (Nat.le_of_ble_eq_true rfl) ?_
  intro p e s m below meth c ls A H hHe hx hb hr hml hown hts hlocks hnm hP hK hD hA hS hN hl
  have hown : s.vm.findClass "WrongHoleModel" = some m.cls := hown
  have hT : ∀ w ∈ TB, w.before ([.ref m0, .int a1, .int a2, .int a3, .int a4, .int a5] : List Value).toArray s = true := fun w h => hts w (List.mem_cons_of_mem _ h)
  have hl : lv_has ls 6 [(0, .ref m0), (1, .int a1), (2, .int a2), (3, .int a3), (4, .int a4), (5, .int a5)] := hl
  have hP : va_P D vwCl [(m0, .inr (10, [.ref mTa, .int 0, .int 0, .ref mSi, .ref mLe, .ref mCl, .ref mCs, .ref mRe, .int 0, .int 0, .int 0, .int 0, .int 0, .int 0, .int 0, .ref mOp, .int 0, .ref mSt, .int 0, .ref mWo, .ref mSa, .int 0, .ref mWa, .int 0, .ref mFa, .ref mQu, .ref mIs, .int 0, .int 0, .long 0, .ref mIm, .ref mIx, .ref mMa])), (mTa, .inl (kmTa, 400, .inl f))] H := hP
  refine lv_aload_n hx hb dX12_feed_0 rfl (lv_at hl 0 rfl) ?_
  refine va_get (D := D) (ci := 10) (v := .int 0) (C := "WrongHoleModel") (T := TX12) (N := 33) hx hb hts (iq_RX12 _) hown hK hP 0 rfl rfl 1 (by decide) (hT _ qq_5_153) (fun _ h9 => h9) rfl dX12_feed_1 ?_
  refine lv_bipush (v := 20) hx hb dX12_feed_4 (by decide) ?_
  refine lv_iadd hx hb dX12_feed_6 ?_
  refine tc_i 20 (by decide) ?_
  refine lv_sipush (v := 400) hx hb dX12_feed_7 (by decide) ?_
  refine lv_icmp_le (tgt := 15) hx hb dX12_feed_10 (by decide) (fun _ => ?_) (fun c_1 => absurd (by decide) c_1)
  refine lv_aload_n hx hb dX12_feed_15 rfl (lv_at hl 0 rfl) ?_
  refine lv_iload_n hx hb dX12_feed_16 rfl (lv_at hl 1 rfl) ?_
  have hPc := hP.sub (ws' := [(m0, .inr (10, [.ref mTa, .int 0, .int 0, .ref mSi, .ref mLe, .ref mCl, .ref mCs, .ref mRe, .int 0, .int 0, .int 0, .int 0, .int 0, .int 0, .int 0, .ref mOp, .int 0, .ref mSt, .int 0, .ref mWo, .ref mSa, .int 0, .ref mWa, .int 0, .ref mFa, .ref mQu, .ref mIs, .int 0, .int 0, .long 0, .ref mIm, .ref mIx, .ref mMa])), (mTa, .inl (kmTa, 400, .inl f))]) [0, 1] rfl
  have hDc := hD.sub (ws' := [(m0, .inr (10, [.ref mTa, .int 0, .int 0, .ref mSi, .ref mLe, .ref mCl, .ref mCs, .ref mRe, .int 0, .int 0, .int 0, .int 0, .int 0, .int 0, .int 0, .ref mOp, .int 0, .ref mSt, .int 0, .ref mWo, .ref mSa, .int 0, .ref mWa, .int 0, .ref mFa, .ref mQu, .ref mIs, .int 0, .int 0, .long 0, .ref mIm, .ref mIx, .ref mMa])), (mTa, .inl (kmTa, 400, .inl f))]) [0, 1] (by decide) rfl
  have hKc := hK.sub (tys' := [(kmTa, .byte)]) [0] rfl
  have hFc := va_free (wc := [(m0, .inr (10, [.ref mTa, .int 0, .int 0, .ref mSi, .ref mLe, .ref mCl, .ref mCs, .ref mRe, .int 0, .int 0, .int 0, .int 0, .int 0, .int 0, .int 0, .ref mOp, .int 0, .ref mSt, .int 0, .ref mWo, .ref mSa, .int 0, .ref mWa, .int 0, .ref mFa, .ref mQu, .ref mIs, .int 0, .int 0, .long 0, .ref mIm, .ref mIx, .ref mMa])), (mTa, .inl (kmTa, 400, .inl f))]) hD hS hA [0, 1] rfl
  refine va_callv (va_runV (As := [.int a1]) (rest := []) ⟨hx, hb, hml, hown, hts⟩ (c_four_0 l D ad H.size m0 mTa mSi mLe mCl mCs mRe mOp mSt mWo mSa mWa mFa mQu mIs mIm mIx mMa kmTa f a1) ⟨callB_of 1 hts (gd_C qq_6_20) rfl rfl rfl (hT _ qq_1_9) (hT _ qq_6_17) (by decide +kernel) (rm_R rfl rfl), (hT _ qq_6_19), (hT _ qs_1_15)⟩ (pr_V hPc hKc hDc hN (ci := 10) (q0 := 0) rfl rfl) rfl rfl hl.1 rfl (lv_room (Nat.le_of_ble_eq_true rfl)) dX12_feed_17 ⟨Nat.le_of_ble_eq_true rfl, Nat.le_of_ble_eq_true rfl⟩) hS (fun q _ h => hFc q h) hFc (fun u_2 t_5 H1 locs ht9 hvm hw_3 hB_4 hz1 hk1 hS => ?_)
  obtain ⟨g_6, hP1, hK1, hD1⟩ := hB_4
  rw [ht9] at hP1
  have hK1 := va_K.moved hvm.symm hK1
  obtain ⟨hP, hD⟩ := va_join (wr := []) (w1 := [(m0, .inr (10, [.ref mTa, .int 4, .int 0, .ref mSi, .ref mLe, .ref mCl, .ref mCs, .ref mRe, .int 0, .int 0, .int 0, .int 0, .int 0, .int 0, .int 0, .ref mOp, .int 0, .ref mSt, .int 0, .ref mWo, .ref mSa, .int 0, .ref mWa, .int 0, .ref mFa, .ref mQu, .ref mIs, .int 0, .int 0, .long 0, .ref mIm, .ref mIx, .ref mMa])), (mTa, .inl (kmTa, 400, .inl g_6))]) hP hD [0, 1] [] rfl rfl (by decide) (by decide) hk1 hFc hP1 hD1
  have hK := (hK.sub (tys' := []) [] rfl).app hK1
  have hK : va_K D vwCl [(kmTa, .byte)] s := hK
  generalize H1 = H at hP hS ⊢
  have hP : va_P D vwCl [(m0, .inr (10, [.ref mTa, .int 4, .int 0, .ref mSi, .ref mLe, .ref mCl, .ref mCs, .ref mRe, .int 0, .int 0, .int 0, .int 0, .int 0, .int 0, .int 0, .ref mOp, .int 0, .ref mSt, .int 0, .ref mWo, .ref mSa, .int 0, .ref mWa, .int 0, .ref mFa, .ref mQu, .ref mIs, .int 0, .int 0, .long 0, .ref mIm, .ref mIx, .ref mMa])), (mTa, .inl (kmTa, 400, .inl g_6))] H := hP
  have hD : va_D A [(m0, .inr (10, [.ref mTa, .int 4, .int 0, .ref mSi, .ref mLe, .ref mCl, .ref mCs, .ref mRe, .int 0, .int 0, .int 0, .int 0, .int 0, .int 0, .int 0, .ref mOp, .int 0, .ref mSt, .int 0, .ref mWo, .ref mSa, .int 0, .ref mWa, .int 0, .ref mFa, .ref mQu, .ref mIs, .int 0, .int 0, .long 0, .ref mIm, .ref mIx, .ref mMa])), (mTa, .inl (kmTa, 400, .inl g_6))] := hD
  refine lv_aload_n hx hb dX12_feed_20 rfl (lv_at hl 0 rfl) ?_
  refine lv_iload_n hx hb dX12_feed_21 rfl (lv_at hl 2 rfl) ?_
  have hPc := hP.sub (ws' := [(m0, .inr (10, [.ref mTa, .int 4, .int 0, .ref mSi, .ref mLe, .ref mCl, .ref mCs, .ref mRe, .int 0, .int 0, .int 0, .int 0, .int 0, .int 0, .int 0, .ref mOp, .int 0, .ref mSt, .int 0, .ref mWo, .ref mSa, .int 0, .ref mWa, .int 0, .ref mFa, .ref mQu, .ref mIs, .int 0, .int 0, .long 0, .ref mIm, .ref mIx, .ref mMa])), (mTa, .inl (kmTa, 400, .inl g_6))]) [0, 1] rfl
  have hDc := hD.sub (ws' := [(m0, .inr (10, [.ref mTa, .int 4, .int 0, .ref mSi, .ref mLe, .ref mCl, .ref mCs, .ref mRe, .int 0, .int 0, .int 0, .int 0, .int 0, .int 0, .int 0, .ref mOp, .int 0, .ref mSt, .int 0, .ref mWo, .ref mSa, .int 0, .ref mWa, .int 0, .ref mFa, .ref mQu, .ref mIs, .int 0, .int 0, .long 0, .ref mIm, .ref mIx, .ref mMa])), (mTa, .inl (kmTa, 400, .inl g_6))]) [0, 1] (by decide) rfl
  have hKc := hK.sub (tys' := [(kmTa, .byte)]) [0] rfl
  have hFc := va_free (wc := [(m0, .inr (10, [.ref mTa, .int 4, .int 0, .ref mSi, .ref mLe, .ref mCl, .ref mCs, .ref mRe, .int 0, .int 0, .int 0, .int 0, .int 0, .int 0, .int 0, .ref mOp, .int 0, .ref mSt, .int 0, .ref mWo, .ref mSa, .int 0, .ref mWa, .int 0, .ref mFa, .ref mQu, .ref mIs, .int 0, .int 0, .long 0, .ref mIm, .ref mIx, .ref mMa])), (mTa, .inl (kmTa, 400, .inl g_6))]) hD hS hA [0, 1] rfl
  refine va_callv (va_runV (As := [.int a2]) (rest := []) ⟨hx, hb, hml, hown, hts⟩ (c_four_4 l D ad H.size m0 mTa mSi mLe mCl mCs mRe mOp mSt mWo mSa mWa mFa mQu mIs mIm mIx mMa kmTa g_6 a2) ⟨callB_of 1 hts (gd_C qq_6_20) rfl rfl rfl (hT _ qq_1_9) (hT _ qq_6_17) (by decide +kernel) (rm_R rfl rfl), (hT _ qq_6_19), (hT _ qs_1_15)⟩ (pr_V hPc hKc hDc hN (ci := 10) (q0 := 0) rfl rfl) rfl rfl hl.1 rfl (lv_room (Nat.le_of_ble_eq_true rfl)) dX12_feed_22 ⟨Nat.le_of_ble_eq_true rfl, Nat.le_of_ble_eq_true rfl⟩) hS (fun q _ h => hFc q h) hFc (fun u_7 t_10 H1 locs ht9 hvm hw_8 hB_9 hz1 hk1 hS => ?_)
  obtain ⟨g_11, hP1, hK1, hD1⟩ := hB_9
  rw [ht9] at hP1
  have hK1 := va_K.moved hvm.symm hK1
  obtain ⟨hP, hD⟩ := va_join (wr := []) (w1 := [(m0, .inr (10, [.ref mTa, .int 8, .int 0, .ref mSi, .ref mLe, .ref mCl, .ref mCs, .ref mRe, .int 0, .int 0, .int 0, .int 0, .int 0, .int 0, .int 0, .ref mOp, .int 0, .ref mSt, .int 0, .ref mWo, .ref mSa, .int 0, .ref mWa, .int 0, .ref mFa, .ref mQu, .ref mIs, .int 0, .int 0, .long 0, .ref mIm, .ref mIx, .ref mMa])), (mTa, .inl (kmTa, 400, .inl g_11))]) hP hD [0, 1] [] rfl rfl (by decide) (by decide) hk1 hFc hP1 hD1
  have hK := (hK.sub (tys' := []) [] rfl).app hK1
  have hK : va_K D vwCl [(kmTa, .byte)] s := hK
  generalize H1 = H at hP hS ⊢
  have hP : va_P D vwCl [(m0, .inr (10, [.ref mTa, .int 8, .int 0, .ref mSi, .ref mLe, .ref mCl, .ref mCs, .ref mRe, .int 0, .int 0, .int 0, .int 0, .int 0, .int 0, .int 0, .ref mOp, .int 0, .ref mSt, .int 0, .ref mWo, .ref mSa, .int 0, .ref mWa, .int 0, .ref mFa, .ref mQu, .ref mIs, .int 0, .int 0, .long 0, .ref mIm, .ref mIx, .ref mMa])), (mTa, .inl (kmTa, 400, .inl g_11))] H := hP
  have hD : va_D A [(m0, .inr (10, [.ref mTa, .int 8, .int 0, .ref mSi, .ref mLe, .ref mCl, .ref mCs, .ref mRe, .int 0, .int 0, .int 0, .int 0, .int 0, .int 0, .int 0, .ref mOp, .int 0, .ref mSt, .int 0, .ref mWo, .ref mSa, .int 0, .ref mWa, .int 0, .ref mFa, .ref mQu, .ref mIs, .int 0, .int 0, .long 0, .ref mIm, .ref mIx, .ref mMa])), (mTa, .inl (kmTa, 400, .inl g_11))] := hD
  refine lv_aload_n hx hb dX12_feed_25 rfl (lv_at hl 0 rfl) ?_
  refine lv_iload_n hx hb dX12_feed_26 rfl (lv_at hl 3 rfl) ?_
  have hPc := hP.sub (ws' := [(m0, .inr (10, [.ref mTa, .int 8, .int 0, .ref mSi, .ref mLe, .ref mCl, .ref mCs, .ref mRe, .int 0, .int 0, .int 0, .int 0, .int 0, .int 0, .int 0, .ref mOp, .int 0, .ref mSt, .int 0, .ref mWo, .ref mSa, .int 0, .ref mWa, .int 0, .ref mFa, .ref mQu, .ref mIs, .int 0, .int 0, .long 0, .ref mIm, .ref mIx, .ref mMa])), (mTa, .inl (kmTa, 400, .inl g_11))]) [0, 1] rfl
  have hDc := hD.sub (ws' := [(m0, .inr (10, [.ref mTa, .int 8, .int 0, .ref mSi, .ref mLe, .ref mCl, .ref mCs, .ref mRe, .int 0, .int 0, .int 0, .int 0, .int 0, .int 0, .int 0, .ref mOp, .int 0, .ref mSt, .int 0, .ref mWo, .ref mSa, .int 0, .ref mWa, .int 0, .ref mFa, .ref mQu, .ref mIs, .int 0, .int 0, .long 0, .ref mIm, .ref mIx, .ref mMa])), (mTa, .inl (kmTa, 400, .inl g_11))]) [0, 1] (by decide) rfl
  have hKc := hK.sub (tys' := [(kmTa, .byte)]) [0] rfl
  have hFc := va_free (wc := [(m0, .inr (10, [.ref mTa, .int 8, .int 0, .ref mSi, .ref mLe, .ref mCl, .ref mCs, .ref mRe, .int 0, .int 0, .int 0, .int 0, .int 0, .int 0, .int 0, .ref mOp, .int 0, .ref mSt, .int 0, .ref mWo, .ref mSa, .int 0, .ref mWa, .int 0, .ref mFa, .ref mQu, .ref mIs, .int 0, .int 0, .long 0, .ref mIm, .ref mIx, .ref mMa])), (mTa, .inl (kmTa, 400, .inl g_11))]) hD hS hA [0, 1] rfl
  refine va_callv (va_runV (As := [.int a3]) (rest := []) ⟨hx, hb, hml, hown, hts⟩ (c_four_8 l D ad H.size m0 mTa mSi mLe mCl mCs mRe mOp mSt mWo mSa mWa mFa mQu mIs mIm mIx mMa kmTa g_11 a3) ⟨callB_of 1 hts (gd_C qq_6_20) rfl rfl rfl (hT _ qq_1_9) (hT _ qq_6_17) (by decide +kernel) (rm_R rfl rfl), (hT _ qq_6_19), (hT _ qs_1_15)⟩ (pr_V hPc hKc hDc hN (ci := 10) (q0 := 0) rfl rfl) rfl rfl hl.1 rfl (lv_room (Nat.le_of_ble_eq_true rfl)) dX12_feed_27 ⟨Nat.le_of_ble_eq_true rfl, Nat.le_of_ble_eq_true rfl⟩) hS (fun q _ h => hFc q h) hFc (fun u_12 t_15 H1 locs ht9 hvm hw_13 hB_14 hz1 hk1 hS => ?_)
  obtain ⟨g_16, hP1, hK1, hD1⟩ := hB_14
  rw [ht9] at hP1
  have hK1 := va_K.moved hvm.symm hK1
  obtain ⟨hP, hD⟩ := va_join (wr := []) (w1 := [(m0, .inr (10, [.ref mTa, .int 12, .int 0, .ref mSi, .ref mLe, .ref mCl, .ref mCs, .ref mRe, .int 0, .int 0, .int 0, .int 0, .int 0, .int 0, .int 0, .ref mOp, .int 0, .ref mSt, .int 0, .ref mWo, .ref mSa, .int 0, .ref mWa, .int 0, .ref mFa, .ref mQu, .ref mIs, .int 0, .int 0, .long 0, .ref mIm, .ref mIx, .ref mMa])), (mTa, .inl (kmTa, 400, .inl g_16))]) hP hD [0, 1] [] rfl rfl (by decide) (by decide) hk1 hFc hP1 hD1
  have hK := (hK.sub (tys' := []) [] rfl).app hK1
  have hK : va_K D vwCl [(kmTa, .byte)] s := hK
  generalize H1 = H at hP hS ⊢
  have hP : va_P D vwCl [(m0, .inr (10, [.ref mTa, .int 12, .int 0, .ref mSi, .ref mLe, .ref mCl, .ref mCs, .ref mRe, .int 0, .int 0, .int 0, .int 0, .int 0, .int 0, .int 0, .ref mOp, .int 0, .ref mSt, .int 0, .ref mWo, .ref mSa, .int 0, .ref mWa, .int 0, .ref mFa, .ref mQu, .ref mIs, .int 0, .int 0, .long 0, .ref mIm, .ref mIx, .ref mMa])), (mTa, .inl (kmTa, 400, .inl g_16))] H := hP
  have hD : va_D A [(m0, .inr (10, [.ref mTa, .int 12, .int 0, .ref mSi, .ref mLe, .ref mCl, .ref mCs, .ref mRe, .int 0, .int 0, .int 0, .int 0, .int 0, .int 0, .int 0, .ref mOp, .int 0, .ref mSt, .int 0, .ref mWo, .ref mSa, .int 0, .ref mWa, .int 0, .ref mFa, .ref mQu, .ref mIs, .int 0, .int 0, .long 0, .ref mIm, .ref mIx, .ref mMa])), (mTa, .inl (kmTa, 400, .inl g_16))] := hD
  refine lv_aload_n hx hb dX12_feed_30 rfl (lv_at hl 0 rfl) ?_
  refine lv_iload hx hb dX12_feed_31 (lv_at hl 4 rfl) ?_
  have hPc := hP.sub (ws' := [(m0, .inr (10, [.ref mTa, .int 12, .int 0, .ref mSi, .ref mLe, .ref mCl, .ref mCs, .ref mRe, .int 0, .int 0, .int 0, .int 0, .int 0, .int 0, .int 0, .ref mOp, .int 0, .ref mSt, .int 0, .ref mWo, .ref mSa, .int 0, .ref mWa, .int 0, .ref mFa, .ref mQu, .ref mIs, .int 0, .int 0, .long 0, .ref mIm, .ref mIx, .ref mMa])), (mTa, .inl (kmTa, 400, .inl g_16))]) [0, 1] rfl
  have hDc := hD.sub (ws' := [(m0, .inr (10, [.ref mTa, .int 12, .int 0, .ref mSi, .ref mLe, .ref mCl, .ref mCs, .ref mRe, .int 0, .int 0, .int 0, .int 0, .int 0, .int 0, .int 0, .ref mOp, .int 0, .ref mSt, .int 0, .ref mWo, .ref mSa, .int 0, .ref mWa, .int 0, .ref mFa, .ref mQu, .ref mIs, .int 0, .int 0, .long 0, .ref mIm, .ref mIx, .ref mMa])), (mTa, .inl (kmTa, 400, .inl g_16))]) [0, 1] (by decide) rfl
  have hKc := hK.sub (tys' := [(kmTa, .byte)]) [0] rfl
  have hFc := va_free (wc := [(m0, .inr (10, [.ref mTa, .int 12, .int 0, .ref mSi, .ref mLe, .ref mCl, .ref mCs, .ref mRe, .int 0, .int 0, .int 0, .int 0, .int 0, .int 0, .int 0, .ref mOp, .int 0, .ref mSt, .int 0, .ref mWo, .ref mSa, .int 0, .ref mWa, .int 0, .ref mFa, .ref mQu, .ref mIs, .int 0, .int 0, .long 0, .ref mIm, .ref mIx, .ref mMa])), (mTa, .inl (kmTa, 400, .inl g_16))]) hD hS hA [0, 1] rfl
  refine va_callv (va_runV (As := [.int a4]) (rest := []) ⟨hx, hb, hml, hown, hts⟩ (c_four_12 l D ad H.size m0 mTa mSi mLe mCl mCs mRe mOp mSt mWo mSa mWa mFa mQu mIs mIm mIx mMa kmTa g_16 a4) ⟨callB_of 1 hts (gd_C qq_6_20) rfl rfl rfl (hT _ qq_1_9) (hT _ qq_6_17) (by decide +kernel) (rm_R rfl rfl), (hT _ qq_6_19), (hT _ qs_1_15)⟩ (pr_V hPc hKc hDc hN (ci := 10) (q0 := 0) rfl rfl) rfl rfl hl.1 rfl (lv_room (Nat.le_of_ble_eq_true rfl)) dX12_feed_33 ⟨Nat.le_of_ble_eq_true rfl, Nat.le_of_ble_eq_true rfl⟩) hS (fun q _ h => hFc q h) hFc (fun u_17 t_20 H1 locs ht9 hvm hw_18 hB_19 hz1 hk1 hS => ?_)
  obtain ⟨g_21, hP1, hK1, hD1⟩ := hB_19
  rw [ht9] at hP1
  have hK1 := va_K.moved hvm.symm hK1
  obtain ⟨hP, hD⟩ := va_join (wr := []) (w1 := [(m0, .inr (10, [.ref mTa, .int 16, .int 0, .ref mSi, .ref mLe, .ref mCl, .ref mCs, .ref mRe, .int 0, .int 0, .int 0, .int 0, .int 0, .int 0, .int 0, .ref mOp, .int 0, .ref mSt, .int 0, .ref mWo, .ref mSa, .int 0, .ref mWa, .int 0, .ref mFa, .ref mQu, .ref mIs, .int 0, .int 0, .long 0, .ref mIm, .ref mIx, .ref mMa])), (mTa, .inl (kmTa, 400, .inl g_21))]) hP hD [0, 1] [] rfl rfl (by decide) (by decide) hk1 hFc hP1 hD1
  have hK := (hK.sub (tys' := []) [] rfl).app hK1
  have hK : va_K D vwCl [(kmTa, .byte)] s := hK
  generalize H1 = H at hP hS ⊢
  have hP : va_P D vwCl [(m0, .inr (10, [.ref mTa, .int 16, .int 0, .ref mSi, .ref mLe, .ref mCl, .ref mCs, .ref mRe, .int 0, .int 0, .int 0, .int 0, .int 0, .int 0, .int 0, .ref mOp, .int 0, .ref mSt, .int 0, .ref mWo, .ref mSa, .int 0, .ref mWa, .int 0, .ref mFa, .ref mQu, .ref mIs, .int 0, .int 0, .long 0, .ref mIm, .ref mIx, .ref mMa])), (mTa, .inl (kmTa, 400, .inl g_21))] H := hP
  have hD : va_D A [(m0, .inr (10, [.ref mTa, .int 16, .int 0, .ref mSi, .ref mLe, .ref mCl, .ref mCs, .ref mRe, .int 0, .int 0, .int 0, .int 0, .int 0, .int 0, .int 0, .ref mOp, .int 0, .ref mSt, .int 0, .ref mWo, .ref mSa, .int 0, .ref mWa, .int 0, .ref mFa, .ref mQu, .ref mIs, .int 0, .int 0, .long 0, .ref mIm, .ref mIx, .ref mMa])), (mTa, .inl (kmTa, 400, .inl g_21))] := hD
  refine lv_aload_n hx hb dX12_feed_36 rfl (lv_at hl 0 rfl) ?_
  refine lv_iload hx hb dX12_feed_37 (lv_at hl 5 rfl) ?_
  have hPc := hP.sub (ws' := [(m0, .inr (10, [.ref mTa, .int 16, .int 0, .ref mSi, .ref mLe, .ref mCl, .ref mCs, .ref mRe, .int 0, .int 0, .int 0, .int 0, .int 0, .int 0, .int 0, .ref mOp, .int 0, .ref mSt, .int 0, .ref mWo, .ref mSa, .int 0, .ref mWa, .int 0, .ref mFa, .ref mQu, .ref mIs, .int 0, .int 0, .long 0, .ref mIm, .ref mIx, .ref mMa])), (mTa, .inl (kmTa, 400, .inl g_21))]) [0, 1] rfl
  have hDc := hD.sub (ws' := [(m0, .inr (10, [.ref mTa, .int 16, .int 0, .ref mSi, .ref mLe, .ref mCl, .ref mCs, .ref mRe, .int 0, .int 0, .int 0, .int 0, .int 0, .int 0, .int 0, .ref mOp, .int 0, .ref mSt, .int 0, .ref mWo, .ref mSa, .int 0, .ref mWa, .int 0, .ref mFa, .ref mQu, .ref mIs, .int 0, .int 0, .long 0, .ref mIm, .ref mIx, .ref mMa])), (mTa, .inl (kmTa, 400, .inl g_21))]) [0, 1] (by decide) rfl
  have hKc := hK.sub (tys' := [(kmTa, .byte)]) [0] rfl
  have hFc := va_free (wc := [(m0, .inr (10, [.ref mTa, .int 16, .int 0, .ref mSi, .ref mLe, .ref mCl, .ref mCs, .ref mRe, .int 0, .int 0, .int 0, .int 0, .int 0, .int 0, .int 0, .ref mOp, .int 0, .ref mSt, .int 0, .ref mWo, .ref mSa, .int 0, .ref mWa, .int 0, .ref mFa, .ref mQu, .ref mIs, .int 0, .int 0, .long 0, .ref mIm, .ref mIx, .ref mMa])), (mTa, .inl (kmTa, 400, .inl g_21))]) hD hS hA [0, 1] rfl
  refine va_callv (va_runV (As := [.int a5]) (rest := []) ⟨hx, hb, hml, hown, hts⟩ (c_four_16 l D ad H.size m0 mTa mSi mLe mCl mCs mRe mOp mSt mWo mSa mWa mFa mQu mIs mIm mIx mMa kmTa g_21 a5) ⟨callB_of 1 hts (gd_C qq_6_20) rfl rfl rfl (hT _ qq_1_9) (hT _ qq_6_17) (by decide +kernel) (rm_R rfl rfl), (hT _ qq_6_19), (hT _ qs_1_15)⟩ (pr_V hPc hKc hDc hN (ci := 10) (q0 := 0) rfl rfl) rfl rfl hl.1 rfl (lv_room (Nat.le_of_ble_eq_true rfl)) dX12_feed_39 ⟨Nat.le_of_ble_eq_true rfl, Nat.le_of_ble_eq_true rfl⟩) hS (fun q _ h => hFc q h) hFc (fun u_22 t_25 H1 locs ht9 hvm hw_23 hB_24 hz1 hk1 hS => ?_)
  obtain ⟨g_26, hP1, hK1, hD1⟩ := hB_24
  rw [ht9] at hP1
  have hK1 := va_K.moved hvm.symm hK1
  obtain ⟨hP, hD⟩ := va_join (wr := []) (w1 := [(m0, .inr (10, [.ref mTa, .int 20, .int 0, .ref mSi, .ref mLe, .ref mCl, .ref mCs, .ref mRe, .int 0, .int 0, .int 0, .int 0, .int 0, .int 0, .int 0, .ref mOp, .int 0, .ref mSt, .int 0, .ref mWo, .ref mSa, .int 0, .ref mWa, .int 0, .ref mFa, .ref mQu, .ref mIs, .int 0, .int 0, .long 0, .ref mIm, .ref mIx, .ref mMa])), (mTa, .inl (kmTa, 400, .inl g_26))]) hP hD [0, 1] [] rfl rfl (by decide) (by decide) hk1 hFc hP1 hD1
  have hK := (hK.sub (tys' := []) [] rfl).app hK1
  have hK : va_K D vwCl [(kmTa, .byte)] s := hK
  generalize H1 = H at hP hS ⊢
  have hP : va_P D vwCl [(m0, .inr (10, [.ref mTa, .int 20, .int 0, .ref mSi, .ref mLe, .ref mCl, .ref mCs, .ref mRe, .int 0, .int 0, .int 0, .int 0, .int 0, .int 0, .int 0, .ref mOp, .int 0, .ref mSt, .int 0, .ref mWo, .ref mSa, .int 0, .ref mWa, .int 0, .ref mFa, .ref mQu, .ref mIs, .int 0, .int 0, .long 0, .ref mIm, .ref mIx, .ref mMa])), (mTa, .inl (kmTa, 400, .inl g_26))] H := hP
  have hD : va_D A [(m0, .inr (10, [.ref mTa, .int 20, .int 0, .ref mSi, .ref mLe, .ref mCl, .ref mCs, .ref mRe, .int 0, .int 0, .int 0, .int 0, .int 0, .int 0, .int 0, .ref mOp, .int 0, .ref mSt, .int 0, .ref mWo, .ref mSa, .int 0, .ref mWa, .int 0, .ref mFa, .ref mQu, .ref mIs, .int 0, .int 0, .long 0, .ref mIm, .ref mIx, .ref mMa])), (mTa, .inl (kmTa, 400, .inl g_26))] := hD
  refine lv_aload_n hx hb dX12_feed_42 rfl (lv_at hl 0 rfl) ?_
  refine va_get (D := D) (ci := 10) (v := .int 20) (C := "WrongHoleModel") (T := TX12) (N := 33) hx hb hts (iq_RX12 _) hown hK hP 0 rfl rfl 1 (by decide) (hT _ qq_5_153) (fun _ h9 => h9) rfl dX12_feed_43 ?_
  refine W.widen (k := 0) (n := 0) (Nat.le_of_ble_eq_true rfl) (Nat.le_of_ble_eq_true rfl) ?_
  exact W.iret (v := 20) hx hb hr (fun t9 ht9 hW9 => ⟨⟨_, (), rfl, rfl, trivial⟩, hS.F ht9⟩) hS.2.2 dX12_feed_46
theorem dX12_end_0 : decode cX12_end 0 = .ok (.iload_n 1, 1) := by decide +kernel
theorem dX12_end_1 : decode cX12_end 1 = .ok (.ifCond .lt 11, 3) := by decide +kernel
theorem dX12_end_12 : decode cX12_end 12 = .ok (.iconst (-1), 1) := by decide +kernel
theorem dX12_end_13 : decode cX12_end 13 = .ok (.ireturn, 1) := by decide +kernel
theorem dX12_end_4 : decode cX12_end 4 = .ok (.iload_n 1, 1) := by decide +kernel
theorem dX12_end_5 : decode cX12_end 5 = .ok (.aload_n 0, 1) := by decide +kernel
theorem dX12_end_6 : decode cX12_end 6 = .ok (.getfield 65, 3) := by decide +kernel
theorem dX12_end_9 : decode cX12_end 9 = .ok (.if_icmp .le 5, 3) := by decide +kernel
theorem dX12_end_14 : decode cX12_end 14 = .ok (.aload_n 0, 1) := by decide +kernel
theorem dX12_end_15 : decode cX12_end 15 = .ok (.iload_n 1, 1) := by decide +kernel
theorem dX12_end_16 : decode cX12_end 16 = .ok (.putfield 65, 3) := by decide +kernel
theorem dX12_end_19 : decode cX12_end 19 = .ok (.iload_n 1, 1) := by decide +kernel
theorem dX12_end_20 : decode cX12_end 20 = .ok (.ireturn, 1) := by decide +kernel
set_option maxHeartbeats 4000000 in
set_option maxRecDepth 100000 in
theorem c_m_end (l : Launch) (D : va_G) (ad : Nat → Nat) (sz : Nat) (m0 : Nat) (mTa : Nat) (mSi : Nat) (mLe : Nat) (mCl : Nat) (mCs : Nat) (mRe : Nat) (mOp : Nat) (mSt : Nat) (mWo : Nat) (mSa : Nat) (mWa : Nat) (mFa : Nat) (mQu : Nat) (mIs : Nat) (mIm : Nat) (mIx : Nat) (mMa : Nat) (a1 : Int32)  : Met l yX12_end (Cond.code yX12_end cX12_end 2 (some .int) :: TB) (RM 0 0 0) (va_Pc [.ref m0, .int a1] (PRE D ad [(m0, .inr (10, [.ref mTa, .int 0, .int 0, .ref mSi, .ref mLe, .ref mCl, .ref mCs, .ref mRe, .int 0, .int 0, .int 0, .int 0, .int 0, .int 0, .int 0, .ref mOp, .int 0, .ref mSt, .int 0, .ref mWo, .ref mSa, .int 0, .ref mWa, .int 0, .ref mFa, .ref mQu, .ref mIs, .int 0, .int 0, .long 0, .ref mIm, .ref mIx, .ref mMa]))] [] sz)) (va_Qi (S := Unit) (fun r _ => r = (r_end a1)) (fun _ t => True) (va_A [(m0, .inr (10, [.ref mTa, .int 0, .int 0, .ref mSi, .ref mLe, .ref mCl, .ref mCs, .ref mRe, .int 0, .int 0, .int 0, .int 0, .int 0, .int 0, .int 0, .ref mOp, .int 0, .ref mSt, .int 0, .ref mWo, .ref mSa, .int 0, .ref mWa, .int 0, .ref mFa, .ref mQu, .ref mIs, .int 0, .int 0, .long 0, .ref mIm, .ref mIx, .ref mMa]))] sz)) 0 0 (va_A [(m0, .inr (10, [.ref mTa, .int 0, .int 0, .ref mSi, .ref mLe, .ref mCl, .ref mCs, .ref mRe, .int 0, .int 0, .int 0, .int 0, .int 0, .int 0, .int 0, .ref mOp, .int 0, .ref mSt, .int 0, .ref mWo, .ref mSa, .int 0, .ref mWa, .int 0, .ref mFa, .ref mQu, .ref mIs, .int 0, .int 0, .long 0, .ref mIm, .ref mIx, .ref mMa]))] sz) := by
  refine MET (y := yX12_end) (cc := cX12_end) (maxL := 2) (ret := (some .int)) (d := 0) (mc := 0) (ms := 0) (D := D) (ad := ad) (ws := [(m0, .inr (10, [.ref mTa, .int 0, .int 0, .ref mSi, .ref mLe, .ref mCl, .ref mCs, .ref mRe, .int 0, .int 0, .int 0, .int 0, .int 0, .int 0, .int 0, .ref mOp, .int 0, .ref mSt, .int 0, .ref mWo, .ref mSa, .int 0, .ref mWa, .int 0, .ref mFa, .ref mQu, .ref mIs, .int 0, .int 0, .long 0, .ref mIm, .ref mIx, .ref mMa]))]) (tys := []) (sz := sz) (av := [.ref m0, .int a1]) (Qc := fun A => va_Qi (S := Unit) (fun r _ => r = (r_end a1)) (fun _ t => True) A) (fr := fun A => A) (by decide) (Nat.le_of_ble_eq_true rfl) ?_
  intro p e s m below meth c ls A H hHe hx hb hr hml hown hts hlocks hnm hP hK hD hA hS hN hl
  have hown : s.vm.findClass "WrongHoleModel" = some m.cls := hown
  have hT : ∀ w ∈ TB, w.before ([.ref m0, .int a1] : List Value).toArray s = true := fun w h => hts w (List.mem_cons_of_mem _ h)
  have hl : lv_has ls 2 [(0, .ref m0), (1, .int a1)] := hl
  have hP : va_P D vwCl [(m0, .inr (10, [.ref mTa, .int 0, .int 0, .ref mSi, .ref mLe, .ref mCl, .ref mCs, .ref mRe, .int 0, .int 0, .int 0, .int 0, .int 0, .int 0, .int 0, .ref mOp, .int 0, .ref mSt, .int 0, .ref mWo, .ref mSa, .int 0, .ref mWa, .int 0, .ref mFa, .ref mQu, .ref mIs, .int 0, .int 0, .long 0, .ref mIm, .ref mIx, .ref mMa]))] H := hP
  refine lv_iload_n hx hb dX12_end_0 rfl (lv_at hl 1 rfl) ?_
  refine lv_if_lt (tgt := 12) hx hb dX12_end_1 (by decide) (fun c_1 => ?_) (fun c_1 => ?_)
  · refine lv_iconst (v := (-1)) hx hb dX12_end_12 (by decide) ?_
    refine W.widen (k := 0) (n := 0) (Nat.le_of_ble_eq_true rfl) (Nat.le_of_ble_eq_true rfl) ?_
    exact W.iret (v := (-1)) hx hb hr (fun t9 ht9 hW9 => ⟨⟨_, (), rfl, (by simp [r_end, c_1]), trivial⟩, hS.F ht9⟩) hS.2.2 dX12_end_13
  · refine lv_iload_n hx hb dX12_end_4 rfl (lv_at hl 1 rfl) ?_
    refine lv_aload_n hx hb dX12_end_5 rfl (lv_at hl 0 rfl) ?_
    refine va_get (D := D) (ci := 10) (v := .int 0) (C := "WrongHoleModel") (T := TX12) (N := 33) hx hb hts (iq_RX12 _) hown hK hP 0 rfl rfl 1 (by decide) (hT _ qq_5_153) (fun _ h9 => h9) rfl dX12_end_6 ?_
    refine lv_icmp_le (tgt := 14) hx hb dX12_end_9 (by decide) (fun c_2 => ?_) (fun c_2 => ?_)
    · refine lv_aload_n hx hb dX12_end_14 rfl (lv_at hl 0 rfl) ?_
      refine lv_iload_n hx hb dX12_end_15 rfl (lv_at hl 1 rfl) ?_
      refine va_put (D := D) (ci := 10) (v := .int a1) (ty := .int) (C := "WrongHoleModel") (T := TX12) (N := 33) hx hb hts (iq_RX12 _) tyX12 tyX12_ok nmX12 hown hK hP hD hS 0 rfl rfl 1 (by decide) (hT _ qq_5_153) (fun _ h9 => h9) rfl (by decide +kernel) rfl rfl (Nat.le_of_ble_eq_true rfl) dX12_end_16 (fun H locs hP hD hS => ?_)
      have hP : va_P D vwCl [(m0, .inr (10, [.ref mTa, .int a1, .int 0, .ref mSi, .ref mLe, .ref mCl, .ref mCs, .ref mRe, .int 0, .int 0, .int 0, .int 0, .int 0, .int 0, .int 0, .ref mOp, .int 0, .ref mSt, .int 0, .ref mWo, .ref mSa, .int 0, .ref mWa, .int 0, .ref mFa, .ref mQu, .ref mIs, .int 0, .int 0, .long 0, .ref mIm, .ref mIx, .ref mMa]))] H := hP
      have hD : va_D A [(m0, .inr (10, [.ref mTa, .int a1, .int 0, .ref mSi, .ref mLe, .ref mCl, .ref mCs, .ref mRe, .int 0, .int 0, .int 0, .int 0, .int 0, .int 0, .int 0, .ref mOp, .int 0, .ref mSt, .int 0, .ref mWo, .ref mSa, .int 0, .ref mWa, .int 0, .ref mFa, .ref mQu, .ref mIs, .int 0, .int 0, .long 0, .ref mIm, .ref mIx, .ref mMa]))] := hD
      refine lv_iload_n hx hb dX12_end_19 rfl (lv_at hl 1 rfl) ?_
      refine W.widen (k := 0) (n := 0) (Nat.le_of_ble_eq_true rfl) (Nat.le_of_ble_eq_true rfl) ?_
      exact W.iret (v := a1) hx hb hr (fun t9 ht9 hW9 => ⟨⟨_, (), rfl, (by have h9 := z_nlt (a := a1) c_1 (i_C c_2); simp [r_end, h9]), trivial⟩, hS.F ht9⟩) hS.2.2 dX12_end_20
    · refine lv_iconst (v := (-1)) hx hb dX12_end_12 (by decide) ?_
      refine W.widen (k := 0) (n := 0) (Nat.le_of_ble_eq_true rfl) (Nat.le_of_ble_eq_true rfl) ?_
      exact W.iret (v := (-1)) hx hb hr (fun t9 ht9 hW9 => ⟨⟨_, (), rfl, (by simp [r_end, c_1, (i_D c_2)]), trivial⟩, hS.F ht9⟩) hS.2.2 dX12_end_13
