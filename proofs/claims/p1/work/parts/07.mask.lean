theorem dX12_isLift_0 : decode cX12_isLift 0 = .ok (.aload_n 0, 1) := by decide +kernel
theorem dX12_isLift_1 : decode cX12_isLift 1 = .ok (.getfield 39, 3) := by decide +kernel
theorem qq_5_172 : Cond.fieldLink "WrongHoleModel" 39 "WrongHoleModel" "said" "[I" ∈ TB := mk_tb (ti_5 (List.mem_of_getElem? (i := 172) rfl)) rfl
theorem dX12_isLift_4 : decode cX12_isLift 4 = .ok (.iconst 0, 1) := by decide +kernel
theorem dX12_isLift_5 : decode cX12_isLift 5 = .ok (.iaload, 1) := by decide +kernel
theorem dX12_isLift_6 : decode cX12_isLift 6 = .ok (.ifCond .le 7, 3) := by decide +kernel
theorem dX12_isLift_13 : decode cX12_isLift 13 = .ok (.iconst 0, 1) := by decide +kernel
theorem dX12_isLift_14 : decode cX12_isLift 14 = .ok (.ireturn, 1) := by decide +kernel
set_option maxHeartbeats 4000000 in
set_option maxRecDepth 100000 in
theorem c_isLift (l : Launch) (D : va_G) (ad : Nat → Nat) (sz : Nat) (m0 : Nat) (mTa : Nat) (mSi : Nat) (mLe : Nat) (mCl : Nat) (mCs : Nat) (mRe : Nat) (mOp : Nat) (mSt : Nat) (mWo : Nat) (mSa : Nat) (mWa : Nat) (mFa : Nat) (mQu : Nat) (mIs : Nat) (mIm : Nat) (mIx : Nat) (mMa : Nat) (kmSa : ClassId)  : Met l yX12_isLift (Cond.code yX12_isLift cX12_isLift 1 (some .boolean) :: TB) (RM 0 0 0) (va_Pc [.ref m0] (PRE D ad [(m0, .inr (10, [.ref mTa, .int 0, .int 0, .ref mSi, .ref mLe, .ref mCl, .ref mCs, .ref mRe, .int 0, .int 0, .int 0, .int 0, .int 0, .int 0, .int 0, .ref mOp, .int 0, .ref mSt, .int 0, .ref mWo, .ref mSa, .int 0, .ref mWa, .int 0, .ref mFa, .ref mQu, .ref mIs, .int 0, .int 0, .long 0, .ref mIm, .ref mIx, .ref mMa])), (mSa, .inl (kmSa, 133, .inl sd0))] [(kmSa, .int)] sz)) (k2_QcV (.int 0)) 0 0 (fun _ => False) := by
  refine MET (y := yX12_isLift) (cc := cX12_isLift) (maxL := 1) (ret := (some .boolean)) (d := 0) (mc := 0) (ms := 0) (D := D) (ad := ad) (ws := [(m0, .inr (10, [.ref mTa, .int 0, .int 0, .ref mSi, .ref mLe, .ref mCl, .ref mCs, .ref mRe, .int 0, .int 0, .int 0, .int 0, .int 0, .int 0, .int 0, .ref mOp, .int 0, .ref mSt, .int 0, .ref mWo, .ref mSa, .int 0, .ref mWa, .int 0, .ref mFa, .ref mQu, .ref mIs, .int 0, .int 0, .long 0, .ref mIm, .ref mIx, .ref mMa])), (mSa, .inl (kmSa, 133, .inl sd0))]) (tys := [(kmSa, .int)]) (sz := sz) (av := [.ref m0]) (Qc := fun A => k2_QcV (.int 0)) (fr := fun A => (fun _ => False)) (by decide) (Nat.le_of_ble_eq_true rfl) ?_
  intro p e s m below meth c ls A H hHe hx hb hr hml hown hts hlocks hnm hP hK hD hA hS hN hl
  have hown : s.vm.findClass "WrongHoleModel" = some m.cls := hown
  have hT : ∀ w ∈ TB, w.before ([.ref m0] : List Value).toArray s = true := fun w h => hts w (List.mem_cons_of_mem _ h)
  have hl : lv_has ls 1 [(0, .ref m0)] := hl
  have hP : va_P D vwCl [(m0, .inr (10, [.ref mTa, .int 0, .int 0, .ref mSi, .ref mLe, .ref mCl, .ref mCs, .ref mRe, .int 0, .int 0, .int 0, .int 0, .int 0, .int 0, .int 0, .ref mOp, .int 0, .ref mSt, .int 0, .ref mWo, .ref mSa, .int 0, .ref mWa, .int 0, .ref mFa, .ref mQu, .ref mIs, .int 0, .int 0, .long 0, .ref mIm, .ref mIx, .ref mMa])), (mSa, .inl (kmSa, 133, .inl sd0))] H := hP
  refine lv_aload_n hx hb dX12_isLift_0 rfl (lv_at hl 0 rfl) ?_
  refine va_get (D := D) (ci := 10) (v := .ref mSa) (C := "WrongHoleModel") (T := TX12) (N := 33) hx hb hts (iq_RX12 _) hown hK hP 0 rfl rfl 20 (by decide) (hT _ qq_5_172) (fun _ h9 => h9) rfl dX12_isLift_1 ?_
  refine lv_iconst (v := 0) hx hb dX12_isLift_4 (by decide) ?_
  refine va_iald hx hb hK hP 1 0 rfl rfl (vi_c rfl) dX12_isLift_5 ?_
  refine tc_i 0 (by decide) ?_
  refine lv_if_le (tgt := 13) hx hb dX12_isLift_6 (by decide) (fun _ => ?_) (fun c_1 => absurd (by decide) c_1)
  refine lv_iconst (v := 0) hx hb dX12_isLift_13 (by decide) ?_
  exact W.zret (v := 0) (ty := .boolean) hx hb hr rfl (fun t9 ht9 hW9 => ⟨rfl, ht9.trans hHe⟩) (fun _ h9 => absurd h9 List.not_mem_nil) dX12_isLift_14
theorem dX12_isButton_0 : decode cX12_isButton 0 = .ok (.iload_n 1, 1) := by decide +kernel
theorem dX12_isButton_1 : decode cX12_isButton 1 = .ok (.ifCond .lt 17, 3) := by decide +kernel
theorem dX12_isButton_18 : decode cX12_isButton 18 = .ok (.iconst 0, 1) := by decide +kernel
theorem dX12_isButton_19 : decode cX12_isButton 19 = .ok (.ireturn, 1) := by decide +kernel
theorem dX12_isButton_4 : decode cX12_isButton 4 = .ok (.iload_n 1, 1) := by decide +kernel
theorem dX12_isButton_5 : decode cX12_isButton 5 = .ok (.aload_n 0, 1) := by decide +kernel
theorem dX12_isButton_6 : decode cX12_isButton 6 = .ok (.getfield 39, 3) := by decide +kernel
theorem dX12_isButton_9 : decode cX12_isButton 9 = .ok (.iconst 0, 1) := by decide +kernel
theorem dX12_isButton_10 : decode cX12_isButton 10 = .ok (.iaload, 1) := by decide +kernel
theorem dX12_isButton_11 : decode cX12_isButton 11 = .ok (.if_icmp .ge 7, 3) := by decide +kernel
set_option maxHeartbeats 4000000 in
set_option maxRecDepth 100000 in
theorem c_isButton (l : Launch) (D : va_G) (ad : Nat → Nat) (sz : Nat) (m0 : Nat) (mTa : Nat) (mSi : Nat) (mLe : Nat) (mCl : Nat) (mCs : Nat) (mRe : Nat) (mOp : Nat) (mSt : Nat) (mWo : Nat) (mSa : Nat) (mWa : Nat) (mFa : Nat) (mQu : Nat) (mIs : Nat) (mIm : Nat) (mIx : Nat) (mMa : Nat) (kmSa : ClassId) (a1 : Int32)  : Met l yX12_isButton (Cond.code yX12_isButton cX12_isButton 2 (some .boolean) :: TB) (RM 0 0 0) (va_Pc [.ref m0, .int a1] (PRE D ad [(m0, .inr (10, [.ref mTa, .int 0, .int 0, .ref mSi, .ref mLe, .ref mCl, .ref mCs, .ref mRe, .int 0, .int 0, .int 0, .int 0, .int 0, .int 0, .int 0, .ref mOp, .int 0, .ref mSt, .int 0, .ref mWo, .ref mSa, .int 0, .ref mWa, .int 0, .ref mFa, .ref mQu, .ref mIs, .int 0, .int 0, .long 0, .ref mIm, .ref mIx, .ref mMa])), (mSa, .inl (kmSa, 133, .inl sd0))] [(kmSa, .int)] sz)) (k2_QcV (.int 0)) 0 0 (fun _ => False) := by
  refine MET (y := yX12_isButton) (cc := cX12_isButton) (maxL := 2) (ret := (some .boolean)) (d := 0) (mc := 0) (ms := 0) (D := D) (ad := ad) (ws := [(m0, .inr (10, [.ref mTa, .int 0, .int 0, .ref mSi, .ref mLe, .ref mCl, .ref mCs, .ref mRe, .int 0, .int 0, .int 0, .int 0, .int 0, .int 0, .int 0, .ref mOp, .int 0, .ref mSt, .int 0, .ref mWo, .ref mSa, .int 0, .ref mWa, .int 0, .ref mFa, .ref mQu, .ref mIs, .int 0, .int 0, .long 0, .ref mIm, .ref mIx, .ref mMa])), (mSa, .inl (kmSa, 133, .inl sd0))]) (tys := [(kmSa, .int)]) (sz := sz) (av := [.ref m0, .int a1]) (Qc := fun A => k2_QcV (.int 0)) (fr := fun A => (fun _ => False)) (by decide) (Nat.le_of_ble_eq_true rfl) ?_
  intro p e s m below meth c ls A H hHe hx hb hr hml hown hts hlocks hnm hP hK hD hA hS hN hl
  have hown : s.vm.findClass "WrongHoleModel" = some m.cls := hown
  have hT : ∀ w ∈ TB, w.before ([.ref m0, .int a1] : List Value).toArray s = true := fun w h => hts w (List.mem_cons_of_mem _ h)
  have hl : lv_has ls 2 [(0, .ref m0), (1, .int a1)] := hl
  have hP : va_P D vwCl [(m0, .inr (10, [.ref mTa, .int 0, .int 0, .ref mSi, .ref mLe, .ref mCl, .ref mCs, .ref mRe, .int 0, .int 0, .int 0, .int 0, .int 0, .int 0, .int 0, .ref mOp, .int 0, .ref mSt, .int 0, .ref mWo, .ref mSa, .int 0, .ref mWa, .int 0, .ref mFa, .ref mQu, .ref mIs, .int 0, .int 0, .long 0, .ref mIm, .ref mIx, .ref mMa])), (mSa, .inl (kmSa, 133, .inl sd0))] H := hP
  refine lv_iload_n hx hb dX12_isButton_0 rfl (lv_at hl 1 rfl) ?_
  refine lv_if_lt (tgt := 18) hx hb dX12_isButton_1 (by decide) (fun c_1 => ?_) (fun c_1 => ?_)
  · refine lv_iconst (v := 0) hx hb dX12_isButton_18 (by decide) ?_
    exact W.zret (v := 0) (ty := .boolean) hx hb hr rfl (fun t9 ht9 hW9 => ⟨rfl, ht9.trans hHe⟩) (fun _ h9 => absurd h9 List.not_mem_nil) dX12_isButton_19
  · refine lv_iload_n hx hb dX12_isButton_4 rfl (lv_at hl 1 rfl) ?_
    refine lv_aload_n hx hb dX12_isButton_5 rfl (lv_at hl 0 rfl) ?_
    refine va_get (D := D) (ci := 10) (v := .ref mSa) (C := "WrongHoleModel") (T := TX12) (N := 33) hx hb hts (iq_RX12 _) hown hK hP 0 rfl rfl 20 (by decide) (hT _ qq_5_172) (fun _ h9 => h9) rfl dX12_isButton_6 ?_
    refine lv_iconst (v := 0) hx hb dX12_isButton_9 (by decide) ?_
    refine va_iald hx hb hK hP 1 0 rfl rfl (vi_c rfl) dX12_isButton_10 ?_
    refine tc_i 0 (by decide) ?_
    refine lv_icmp_ge (tgt := 18) hx hb dX12_isButton_11 (by decide) (fun _ => ?_) (fun c_2 => absurd (i_A c_1) c_2)
    refine lv_iconst (v := 0) hx hb dX12_isButton_18 (by decide) ?_
    exact W.zret (v := 0) (ty := .boolean) hx hb hr rfl (fun t9 ht9 hW9 => ⟨rfl, ht9.trans hHe⟩) (fun _ h9 => absurd h9 List.not_mem_nil) dX12_isButton_19
theorem dX12_isHole_0 : decode cX12_isHole 0 = .ok (.iload_n 1, 1) := by decide +kernel
theorem dX12_isHole_1 : decode cX12_isHole 1 = .ok (.ifCond .lt 17, 3) := by decide +kernel
theorem dX12_isHole_18 : decode cX12_isHole 18 = .ok (.iconst 0, 1) := by decide +kernel
theorem dX12_isHole_19 : decode cX12_isHole 19 = .ok (.ireturn, 1) := by decide +kernel
theorem dX12_isHole_4 : decode cX12_isHole 4 = .ok (.iload_n 1, 1) := by decide +kernel
theorem dX12_isHole_5 : decode cX12_isHole 5 = .ok (.aload_n 0, 1) := by decide +kernel
theorem dX12_isHole_6 : decode cX12_isHole 6 = .ok (.getfield 39, 3) := by decide +kernel
theorem dX12_isHole_9 : decode cX12_isHole 9 = .ok (.iconst 1, 1) := by decide +kernel
theorem dX12_isHole_10 : decode cX12_isHole 10 = .ok (.iaload, 1) := by decide +kernel
theorem dX12_isHole_11 : decode cX12_isHole 11 = .ok (.if_icmp .ge 7, 3) := by decide +kernel
set_option maxHeartbeats 4000000 in
set_option maxRecDepth 100000 in
theorem c_isHole (l : Launch) (D : va_G) (ad : Nat → Nat) (sz : Nat) (m0 : Nat) (mTa : Nat) (mSi : Nat) (mLe : Nat) (mCl : Nat) (mCs : Nat) (mRe : Nat) (mOp : Nat) (mSt : Nat) (mWo : Nat) (mSa : Nat) (mWa : Nat) (mFa : Nat) (mQu : Nat) (mIs : Nat) (mIm : Nat) (mIx : Nat) (mMa : Nat) (kmSa : ClassId) (a1 : Int32)  : Met l yX12_isHole (Cond.code yX12_isHole cX12_isHole 2 (some .boolean) :: TB) (RM 0 0 0) (va_Pc [.ref m0, .int a1] (PRE D ad [(m0, .inr (10, [.ref mTa, .int 0, .int 0, .ref mSi, .ref mLe, .ref mCl, .ref mCs, .ref mRe, .int 0, .int 0, .int 0, .int 0, .int 0, .int 0, .int 0, .ref mOp, .int 0, .ref mSt, .int 0, .ref mWo, .ref mSa, .int 0, .ref mWa, .int 0, .ref mFa, .ref mQu, .ref mIs, .int 0, .int 0, .long 0, .ref mIm, .ref mIx, .ref mMa])), (mSa, .inl (kmSa, 133, .inl sd0))] [(kmSa, .int)] sz)) (k2_QcV (.int 0)) 0 0 (fun _ => False) := by
  refine MET (y := yX12_isHole) (cc := cX12_isHole) (maxL := 2) (ret := (some .boolean)) (d := 0) (mc := 0) (ms := 0) (D := D) (ad := ad) (ws := [(m0, .inr (10, [.ref mTa, .int 0, .int 0, .ref mSi, .ref mLe, .ref mCl, .ref mCs, .ref mRe, .int 0, .int 0, .int 0, .int 0, .int 0, .int 0, .int 0, .ref mOp, .int 0, .ref mSt, .int 0, .ref mWo, .ref mSa, .int 0, .ref mWa, .int 0, .ref mFa, .ref mQu, .ref mIs, .int 0, .int 0, .long 0, .ref mIm, .ref mIx, .ref mMa])), (mSa, .inl (kmSa, 133, .inl sd0))]) (tys := [(kmSa, .int)]) (sz := sz) (av := [.ref m0, .int a1]) (Qc := fun A => k2_QcV (.int 0)) (fr := fun A => (fun _ => False)) (by decide) (Nat.le_of_ble_eq_true rfl) ?_
  intro p e s m below meth c ls A H hHe hx hb hr hml hown hts hlocks hnm hP hK hD hA hS hN hl
  have hown : s.vm.findClass "WrongHoleModel" = some m.cls := hown
  have hT : ∀ w ∈ TB, w.before ([.ref m0, .int a1] : List Value).toArray s = true := fun w h => hts w (List.mem_cons_of_mem _ h)
  have hl : lv_has ls 2 [(0, .ref m0), (1, .int a1)] := hl
  have hP : va_P D vwCl [(m0, .inr (10, [.ref mTa, .int 0, .int 0, .ref mSi, .ref mLe, .ref mCl, .ref mCs, .ref mRe, .int 0, .int 0, .int 0, .int 0, .int 0, .int 0, .int 0, .ref mOp, .int 0, .ref mSt, .int 0, .ref mWo, .ref mSa, .int 0, .ref mWa, .int 0, .ref mFa, .ref mQu, .ref mIs, .int 0, .int 0, .long 0, .ref mIm, .ref mIx, .ref mMa])), (mSa, .inl (kmSa, 133, .inl sd0))] H := hP
  refine lv_iload_n hx hb dX12_isHole_0 rfl (lv_at hl 1 rfl) ?_
  refine lv_if_lt (tgt := 18) hx hb dX12_isHole_1 (by decide) (fun c_1 => ?_) (fun c_1 => ?_)
  · refine lv_iconst (v := 0) hx hb dX12_isHole_18 (by decide) ?_
    exact W.zret (v := 0) (ty := .boolean) hx hb hr rfl (fun t9 ht9 hW9 => ⟨rfl, ht9.trans hHe⟩) (fun _ h9 => absurd h9 List.not_mem_nil) dX12_isHole_19
  · refine lv_iload_n hx hb dX12_isHole_4 rfl (lv_at hl 1 rfl) ?_
    refine lv_aload_n hx hb dX12_isHole_5 rfl (lv_at hl 0 rfl) ?_
    refine va_get (D := D) (ci := 10) (v := .ref mSa) (C := "WrongHoleModel") (T := TX12) (N := 33) hx hb hts (iq_RX12 _) hown hK hP 0 rfl rfl 20 (by decide) (hT _ qq_5_172) (fun _ h9 => h9) rfl dX12_isHole_6 ?_
    refine lv_iconst (v := 1) hx hb dX12_isHole_9 (by decide) ?_
    refine va_iald hx hb hK hP 1 0 rfl rfl (vi_c rfl) dX12_isHole_10 ?_
    refine tc_i 0 (by decide) ?_
    refine lv_icmp_ge (tgt := 18) hx hb dX12_isHole_11 (by decide) (fun _ => ?_) (fun c_2 => absurd (i_A c_1) c_2)
    refine lv_iconst (v := 0) hx hb dX12_isHole_18 (by decide) ?_
    exact W.zret (v := 0) (ty := .boolean) hx hb hr rfl (fun t9 ht9 hW9 => ⟨rfl, ht9.trans hHe⟩) (fun _ h9 => absurd h9 List.not_mem_nil) dX12_isHole_19
theorem dX12_in_0 : decode cX12_in 0 = .ok (.lload_n 0, 1) := by decide +kernel
theorem dX12_in_1 : decode cX12_in 1 = .ok (.lload_n 2, 1) := by decide +kernel
theorem dX12_in_2 : decode cX12_in 2 = .ok (.lcmp, 1) := by decide +kernel
theorem dX12_in_3 : decode cX12_in 3 = .ok (.ifCond .lt 14, 3) := by decide +kernel
theorem dX12_in_17 : decode cX12_in 17 = .ok (.iconst 0, 1) := by decide +kernel
theorem dX12_in_18 : decode cX12_in 18 = .ok (.ireturn, 1) := by decide +kernel
theorem dX12_in_6 : decode cX12_in 6 = .ok (.lload_n 0, 1) := by decide +kernel
theorem dX12_in_7 : decode cX12_in 7 = .ok (.lload 4, 2) := by decide +kernel
theorem dX12_in_9 : decode cX12_in 9 = .ok (.lcmp, 1) := by decide +kernel
theorem dX12_in_10 : decode cX12_in 10 = .ok (.ifCond .gt 7, 3) := by decide +kernel
theorem dX12_in_13 : decode cX12_in 13 = .ok (.iconst 1, 1) := by decide +kernel
theorem dX12_in_14 : decode cX12_in 14 = .ok (.goto 4, 3) := by decide +kernel
set_option maxHeartbeats 4000000 in
set_option maxRecDepth 100000 in
theorem c_in_0_9 (l : Launch) (D : va_G) (ad : Nat → Nat) (sz : Nat) (a1 : Int32)  : Met l yX12_in (Cond.code yX12_in cX12_in 6 (some .boolean) :: TB) (RM 0 0 0) (va_Pc [.long a1.toInt64, .long 0, .long 9] (PRE D ad [] [] sz)) (k2_QcV (.int (b_rng 0 9 a1))) 0 0 (fun _ => False) := by
  refine MET (y := yX12_in) (cc := cX12_in) (maxL := 6) (ret := (some .boolean)) (d := 0) (mc := 0) (ms := 0) (D := D) (ad := ad) (ws := []) (tys := []) (sz := sz) (av := [.long a1.toInt64, .long 0, .long 9]) (Qc := fun A => k2_QcV (.int (b_rng 0 9 a1))) (fr := fun A => (fun _ => False)) (by decide) (Nat.le_of_ble_eq_true rfl) ?_
  intro p e s m below meth c ls A H hHe hx hb hr hml hown hts hlocks hnm hP hK hD hA hS hN hl
  have hown : s.vm.findClass "WrongHoleModel" = some m.cls := hown
  have hT : ∀ w ∈ TB, w.before ([.long a1.toInt64, .long 0, .long 9] : List Value).toArray s = true := fun w h => hts w (List.mem_cons_of_mem _ h)
  have hl : lv_has ls 6 [(0, .long a1.toInt64), (2, .long 0), (4, .long 9)] := hl
  have hP : va_P D vwCl [] H := hP
  refine lv_lload_n hx hb dX12_in_0 rfl (lv_at hl 0 rfl) ?_
  refine lv_lload_n hx hb dX12_in_1 rfl (lv_at hl 1 rfl) ?_
  refine W.lcmp hx hb dX12_in_2 ?_
  refine lv_if_lt (tgt := 17) hx hb dX12_in_3 (by decide) (fun c_1 => ?_) (fun c_1 => ?_)
  · refine lv_iconst (v := 0) hx hb dX12_in_17 (by decide) ?_
    exact W.zret (v := 0) (ty := .boolean) hx hb hr rfl (fun t9 ht9 hW9 => ⟨by rw [show (.int (b_rng 0 9 a1) : Value) = .int 0 from (rng_lt rfl c_1)], ht9.trans hHe⟩) (fun _ h9 => absurd h9 List.not_mem_nil) dX12_in_18
  · refine lv_lload_n hx hb dX12_in_6 rfl (lv_at hl 0 rfl) ?_
    refine lv_lload hx hb dX12_in_7 (lv_at hl 2 rfl) ?_
    refine W.lcmp hx hb dX12_in_9 ?_
    refine lv_if_gt (tgt := 17) hx hb dX12_in_10 (by decide) (fun c_2 => ?_) (fun c_2 => ?_)
    · refine lv_iconst (v := 0) hx hb dX12_in_17 (by decide) ?_
      exact W.zret (v := 0) (ty := .boolean) hx hb hr rfl (fun t9 ht9 hW9 => ⟨by rw [show (.int (b_rng 0 9 a1) : Value) = .int 0 from (rng_gt rfl c_2)], ht9.trans hHe⟩) (fun _ h9 => absurd h9 List.not_mem_nil) dX12_in_18
    · refine lv_iconst (v := 1) hx hb dX12_in_13 (by decide) ?_
      refine lv_goto (tgt := 18) hx hb dX12_in_14 (by decide) ?_
      exact W.zret (v := 1) (ty := .boolean) hx hb hr rfl (fun t9 ht9 hW9 => ⟨by rw [show (.int (b_rng 0 9 a1) : Value) = .int 1 from (rng_in rfl rfl c_1 c_2)], ht9.trans hHe⟩) (fun _ h9 => absurd h9 List.not_mem_nil) dX12_in_18
set_option maxHeartbeats 4000000 in
set_option maxRecDepth 100000 in
theorem c_in_m1_9 (l : Launch) (D : va_G) (ad : Nat → Nat) (sz : Nat) (a1 : Int32)  : Met l yX12_in (Cond.code yX12_in cX12_in 6 (some .boolean) :: TB) (RM 0 0 0) (va_Pc [.long a1.toInt64, .long (-1), .long 9] (PRE D ad [] [] sz)) (k2_QcV (.int (b_rng (-1) 9 a1))) 0 0 (fun _ => False) := by
  refine MET (y := yX12_in) (cc := cX12_in) (maxL := 6) (ret := (some .boolean)) (d := 0) (mc := 0) (ms := 0) (D := D) (ad := ad) (ws := []) (tys := []) (sz := sz) (av := [.long a1.toInt64, .long (-1), .long 9]) (Qc := fun A => k2_QcV (.int (b_rng (-1) 9 a1))) (fr := fun A => (fun _ => False)) (by decide) (Nat.le_of_ble_eq_true rfl) ?_
  intro p e s m below meth c ls A H hHe hx hb hr hml hown hts hlocks hnm hP hK hD hA hS hN hl
  have hown : s.vm.findClass "WrongHoleModel" = some m.cls := hown
  have hT : ∀ w ∈ TB, w.before ([.long a1.toInt64, .long (-1), .long 9] : List Value).toArray s = true := fun w h => hts w (List.mem_cons_of_mem _ h)
  have hl : lv_has ls 6 [(0, .long a1.toInt64), (2, .long (-1)), (4, .long 9)] := hl
  have hP : va_P D vwCl [] H := hP
  refine lv_lload_n hx hb dX12_in_0 rfl (lv_at hl 0 rfl) ?_
  refine lv_lload_n hx hb dX12_in_1 rfl (lv_at hl 1 rfl) ?_
  refine W.lcmp hx hb dX12_in_2 ?_
  refine lv_if_lt (tgt := 17) hx hb dX12_in_3 (by decide) (fun c_1 => ?_) (fun c_1 => ?_)
  · refine lv_iconst (v := 0) hx hb dX12_in_17 (by decide) ?_
    exact W.zret (v := 0) (ty := .boolean) hx hb hr rfl (fun t9 ht9 hW9 => ⟨by rw [show (.int (b_rng (-1) 9 a1) : Value) = .int 0 from (rng_lt rfl c_1)], ht9.trans hHe⟩) (fun _ h9 => absurd h9 List.not_mem_nil) dX12_in_18
  · refine lv_lload_n hx hb dX12_in_6 rfl (lv_at hl 0 rfl) ?_
    refine lv_lload hx hb dX12_in_7 (lv_at hl 2 rfl) ?_
    refine W.lcmp hx hb dX12_in_9 ?_
    refine lv_if_gt (tgt := 17) hx hb dX12_in_10 (by decide) (fun c_2 => ?_) (fun c_2 => ?_)
    · refine lv_iconst (v := 0) hx hb dX12_in_17 (by decide) ?_
      exact W.zret (v := 0) (ty := .boolean) hx hb hr rfl (fun t9 ht9 hW9 => ⟨by rw [show (.int (b_rng (-1) 9 a1) : Value) = .int 0 from (rng_gt rfl c_2)], ht9.trans hHe⟩) (fun _ h9 => absurd h9 List.not_mem_nil) dX12_in_18
    · refine lv_iconst (v := 1) hx hb dX12_in_13 (by decide) ?_
      refine lv_goto (tgt := 18) hx hb dX12_in_14 (by decide) ?_
      exact W.zret (v := 1) (ty := .boolean) hx hb hr rfl (fun t9 ht9 hW9 => ⟨by rw [show (.int (b_rng (-1) 9 a1) : Value) = .int 1 from (rng_in rfl rfl c_1 c_2)], ht9.trans hHe⟩) (fun _ h9 => absurd h9 List.not_mem_nil) dX12_in_18
set_option maxHeartbeats 4000000 in
set_option maxRecDepth 100000 in
theorem c_in_1_10 (l : Launch) (D : va_G) (ad : Nat → Nat) (sz : Nat) (a1 : Int32)  : Met l yX12_in (Cond.code yX12_in cX12_in 6 (some .boolean) :: TB) (RM 0 0 0) (va_Pc [.long a1.toInt64, .long 1, .long 10] (PRE D ad [] [] sz)) (k2_QcV (.int (b_rng 1 10 a1))) 0 0 (fun _ => False) := by
  refine MET (y := yX12_in) (cc := cX12_in) (maxL := 6) (ret := (some .boolean)) (d := 0) (mc := 0) (ms := 0) (D := D) (ad := ad) (ws := []) (tys := []) (sz := sz) (av := [.long a1.toInt64, .long 1, .long 10]) (Qc := fun A => k2_QcV (.int (b_rng 1 10 a1))) (fr := fun A => (fun _ => False)) (by decide) (Nat.le_of_ble_eq_true rfl) ?_
  intro p e s m below meth c ls A H hHe hx hb hr hml hown hts hlocks hnm hP hK hD hA hS hN hl
  have hown : s.vm.findClass "WrongHoleModel" = some m.cls := hown
  have hT : ∀ w ∈ TB, w.before ([.long a1.toInt64, .long 1, .long 10] : List Value).toArray s = true := fun w h => hts w (List.mem_cons_of_mem _ h)
  have hl : lv_has ls 6 [(0, .long a1.toInt64), (2, .long 1), (4, .long 10)] := hl
  have hP : va_P D vwCl [] H := hP
  refine lv_lload_n hx hb dX12_in_0 rfl (lv_at hl 0 rfl) ?_
  refine lv_lload_n hx hb dX12_in_1 rfl (lv_at hl 1 rfl) ?_
  refine W.lcmp hx hb dX12_in_2 ?_
  refine lv_if_lt (tgt := 17) hx hb dX12_in_3 (by decide) (fun c_1 => ?_) (fun c_1 => ?_)
  · refine lv_iconst (v := 0) hx hb dX12_in_17 (by decide) ?_
    exact W.zret (v := 0) (ty := .boolean) hx hb hr rfl (fun t9 ht9 hW9 => ⟨by rw [show (.int (b_rng 1 10 a1) : Value) = .int 0 from (rng_lt rfl c_1)], ht9.trans hHe⟩) (fun _ h9 => absurd h9 List.not_mem_nil) dX12_in_18
  · refine lv_lload_n hx hb dX12_in_6 rfl (lv_at hl 0 rfl) ?_
    refine lv_lload hx hb dX12_in_7 (lv_at hl 2 rfl) ?_
    refine W.lcmp hx hb dX12_in_9 ?_
    refine lv_if_gt (tgt := 17) hx hb dX12_in_10 (by decide) (fun c_2 => ?_) (fun c_2 => ?_)
    · refine lv_iconst (v := 0) hx hb dX12_in_17 (by decide) ?_
      exact W.zret (v := 0) (ty := .boolean) hx hb hr rfl (fun t9 ht9 hW9 => ⟨by rw [show (.int (b_rng 1 10 a1) : Value) = .int 0 from (rng_gt rfl c_2)], ht9.trans hHe⟩) (fun _ h9 => absurd h9 List.not_mem_nil) dX12_in_18
    · refine lv_iconst (v := 1) hx hb dX12_in_13 (by decide) ?_
      refine lv_goto (tgt := 18) hx hb dX12_in_14 (by decide) ?_
      exact W.zret (v := 1) (ty := .boolean) hx hb hr rfl (fun t9 ht9 hW9 => ⟨by rw [show (.int (b_rng 1 10 a1) : Value) = .int 1 from (rng_in rfl rfl c_1 c_2)], ht9.trans hHe⟩) (fun _ h9 => absurd h9 List.not_mem_nil) dX12_in_18
set_option maxHeartbeats 4000000 in
set_option maxRecDepth 100000 in
theorem c_in_0_3 (l : Launch) (D : va_G) (ad : Nat → Nat) (sz : Nat) (a1 : Int32)  : Met l yX12_in (Cond.code yX12_in cX12_in 6 (some .boolean) :: TB) (RM 0 0 0) (va_Pc [.long a1.toInt64, .long 0, .long 3] (PRE D ad [] [] sz)) (k2_QcV (.int (b_rng 0 3 a1))) 0 0 (fun _ => False) := by
  refine MET (y := yX12_in) (cc := cX12_in) (maxL := 6) (ret := (some .boolean)) (d := 0) (mc := 0) (ms := 0) (D := D) (ad := ad) (ws := []) (tys := []) (sz := sz) (av := [.long a1.toInt64, .long 0, .long 3]) (Qc := fun A => k2_QcV (.int (b_rng 0 3 a1))) (fr := fun A => (fun _ => False)) (by decide) (Nat.le_of_ble_eq_true rfl) ?_
  intro p e s m below meth c ls A H hHe hx hb hr hml hown hts hlocks hnm hP hK hD hA hS hN hl
  have hown : s.vm.findClass "WrongHoleModel" = some m.cls := hown
  have hT : ∀ w ∈ TB, w.before ([.long a1.toInt64, .long 0, .long 3] : List Value).toArray s = true := fun w h => hts w (List.mem_cons_of_mem _ h)
  have hl : lv_has ls 6 [(0, .long a1.toInt64), (2, .long 0), (4, .long 3)] := hl
  have hP : va_P D vwCl [] H := hP
  refine lv_lload_n hx hb dX12_in_0 rfl (lv_at hl 0 rfl) ?_
  refine lv_lload_n hx hb dX12_in_1 rfl (lv_at hl 1 rfl) ?_
  refine W.lcmp hx hb dX12_in_2 ?_
  refine lv_if_lt (tgt := 17) hx hb dX12_in_3 (by decide) (fun c_1 => ?_) (fun c_1 => ?_)
  · refine lv_iconst (v := 0) hx hb dX12_in_17 (by decide) ?_
    exact W.zret (v := 0) (ty := .boolean) hx hb hr rfl (fun t9 ht9 hW9 => ⟨by rw [show (.int (b_rng 0 3 a1) : Value) = .int 0 from (rng_lt rfl c_1)], ht9.trans hHe⟩) (fun _ h9 => absurd h9 List.not_mem_nil) dX12_in_18
  · refine lv_lload_n hx hb dX12_in_6 rfl (lv_at hl 0 rfl) ?_
    refine lv_lload hx hb dX12_in_7 (lv_at hl 2 rfl) ?_
    refine W.lcmp hx hb dX12_in_9 ?_
    refine lv_if_gt (tgt := 17) hx hb dX12_in_10 (by decide) (fun c_2 => ?_) (fun c_2 => ?_)
    · refine lv_iconst (v := 0) hx hb dX12_in_17 (by decide) ?_
      exact W.zret (v := 0) (ty := .boolean) hx hb hr rfl (fun t9 ht9 hW9 => ⟨by rw [show (.int (b_rng 0 3 a1) : Value) = .int 0 from (rng_gt rfl c_2)], ht9.trans hHe⟩) (fun _ h9 => absurd h9 List.not_mem_nil) dX12_in_18
    · refine lv_iconst (v := 1) hx hb dX12_in_13 (by decide) ?_
      refine lv_goto (tgt := 18) hx hb dX12_in_14 (by decide) ?_
      exact W.zret (v := 1) (ty := .boolean) hx hb hr rfl (fun t9 ht9 hW9 => ⟨by rw [show (.int (b_rng 0 3 a1) : Value) = .int 1 from (rng_in rfl rfl c_1 c_2)], ht9.trans hHe⟩) (fun _ h9 => absurd h9 List.not_mem_nil) dX12_in_18
set_option maxHeartbeats 4000000 in
set_option maxRecDepth 100000 in
theorem c_in_0_5 (l : Launch) (D : va_G) (ad : Nat → Nat) (sz : Nat) (a1 : Int32)  : Met l yX12_in (Cond.code yX12_in cX12_in 6 (some .boolean) :: TB) (RM 0 0 0) (va_Pc [.long a1.toInt64, .long 0, .long 5] (PRE D ad [] [] sz)) (k2_QcV (.int (b_rng 0 5 a1))) 0 0 (fun _ => False) := by
  refine MET (y := yX12_in) (cc := cX12_in) (maxL := 6) (ret := (some .boolean)) (d := 0) (mc := 0) (ms := 0) (D := D) (ad := ad) (ws := []) (tys := []) (sz := sz) (av := [.long a1.toInt64, .long 0, .long 5]) (Qc := fun A => k2_QcV (.int (b_rng 0 5 a1))) (fr := fun A => (fun _ => False)) (by decide) (Nat.le_of_ble_eq_true rfl) ?_
  intro p e s m below meth c ls A H hHe hx hb hr hml hown hts hlocks hnm hP hK hD hA hS hN hl
  have hown : s.vm.findClass "WrongHoleModel" = some m.cls := hown
  have hT : ∀ w ∈ TB, w.before ([.long a1.toInt64, .long 0, .long 5] : List Value).toArray s = true := fun w h => hts w (List.mem_cons_of_mem _ h)
  have hl : lv_has ls 6 [(0, .long a1.toInt64), (2, .long 0), (4, .long 5)] := hl
  have hP : va_P D vwCl [] H := hP
  refine lv_lload_n hx hb dX12_in_0 rfl (lv_at hl 0 rfl) ?_
  refine lv_lload_n hx hb dX12_in_1 rfl (lv_at hl 1 rfl) ?_
  refine W.lcmp hx hb dX12_in_2 ?_
  refine lv_if_lt (tgt := 17) hx hb dX12_in_3 (by decide) (fun c_1 => ?_) (fun c_1 => ?_)
  · refine lv_iconst (v := 0) hx hb dX12_in_17 (by decide) ?_
    exact W.zret (v := 0) (ty := .boolean) hx hb hr rfl (fun t9 ht9 hW9 => ⟨by rw [show (.int (b_rng 0 5 a1) : Value) = .int 0 from (rng_lt rfl c_1)], ht9.trans hHe⟩) (fun _ h9 => absurd h9 List.not_mem_nil) dX12_in_18
  · refine lv_lload_n hx hb dX12_in_6 rfl (lv_at hl 0 rfl) ?_
    refine lv_lload hx hb dX12_in_7 (lv_at hl 2 rfl) ?_
    refine W.lcmp hx hb dX12_in_9 ?_
    refine lv_if_gt (tgt := 17) hx hb dX12_in_10 (by decide) (fun c_2 => ?_) (fun c_2 => ?_)
    · refine lv_iconst (v := 0) hx hb dX12_in_17 (by decide) ?_
      exact W.zret (v := 0) (ty := .boolean) hx hb hr rfl (fun t9 ht9 hW9 => ⟨by rw [show (.int (b_rng 0 5 a1) : Value) = .int 0 from (rng_gt rfl c_2)], ht9.trans hHe⟩) (fun _ h9 => absurd h9 List.not_mem_nil) dX12_in_18
    · refine lv_iconst (v := 1) hx hb dX12_in_13 (by decide) ?_
      refine lv_goto (tgt := 18) hx hb dX12_in_14 (by decide) ?_
      exact W.zret (v := 1) (ty := .boolean) hx hb hr rfl (fun t9 ht9 hW9 => ⟨by rw [show (.int (b_rng 0 5 a1) : Value) = .int 1 from (rng_in rfl rfl c_1 c_2)], ht9.trans hHe⟩) (fun _ h9 => absurd h9 List.not_mem_nil) dX12_in_18
theorem dX12_button_0 : decode cX12_button 0 = .ok (.aload_n 0, 1) := by decide +kernel
theorem dX12_button_1 : decode cX12_button 1 = .ok (.iload_n 1, 1) := by decide +kernel
theorem dX12_button_2 : decode cX12_button 2 = .ok (.invokevirtual 365, 3) := by decide +kernel
theorem qq_7_4 : Cond.code yX12_isButton cX12_isButton 2 (some .boolean) ∈ TB := mk_tb (ti_7 (List.mem_of_getElem? (i := 4) rfl)) rfl
theorem qq_7_1 : Cond.methodLink "WrongHoleModel" 365 yX12_isButton ∈ TB := mk_tb (ti_7 (List.mem_of_getElem? (i := 1) rfl)) rfl
theorem qq_7_3 : Cond.instanceMethod yX12_isButton ∈ TB := mk_tb (ti_7 (List.mem_of_getElem? (i := 3) rfl)) rfl
theorem qs_4_10 : Cond.selects "WrongHoleModel" yX12_isButton yX12_isButton ∈ TB := mk_tb (ti_s (q := (yX12_isButton, 33)) (List.mem_append_right _ (List.mem_append_right _ (List.mem_append_right _ (List.mem_append_right _ (List.mem_append_left _ (List.mem_of_getElem? (i := 10) rfl))))))) rfl
theorem dX12_button_5 : decode cX12_button 5 = .ok (.ifCond .eq 15, 3) := by decide +kernel
theorem dX12_button_20 : decode cX12_button 20 = .ok (.bipush (-2), 2) := by decide +kernel
theorem dX12_button_22 : decode cX12_button 22 = .ok (.ireturn, 1) := by decide +kernel
set_option maxHeartbeats 4000000 in
set_option maxRecDepth 100000 in
theorem c_m_button (l : Launch) (D : va_G) (ad : Nat → Nat) (sz : Nat) (m0 : Nat) (mTa : Nat) (mSi : Nat) (mLe : Nat) (mCl : Nat) (mCs : Nat) (mRe : Nat) (mOp : Nat) (mSt : Nat) (mWo : Nat) (mSa : Nat) (mWa : Nat) (mFa : Nat) (mQu : Nat) (mIs : Nat) (mIm : Nat) (mIx : Nat) (mMa : Nat) (kmSa : ClassId) (a1 : Int32) (a2 : Int32)  : Met l yX12_button (Cond.code yX12_button cX12_button 3 (some .int) :: TB) (RM 1 0 0) (va_Pc [.ref m0, .int a1, .int a2] (PRE D ad [(m0, .inr (10, [.ref mTa, .int 0, .int 0, .ref mSi, .ref mLe, .ref mCl, .ref mCs, .ref mRe, .int 0, .int 0, .int 0, .int 0, .int 0, .int 0, .int 0, .ref mOp, .int 0, .ref mSt, .int 0, .ref mWo, .ref mSa, .int 0, .ref mWa, .int 0, .ref mFa, .ref mQu, .ref mIs, .int 0, .int 0, .long 0, .ref mIm, .ref mIx, .ref mMa])), (mSa, .inl (kmSa, 133, .inl sd0))] [(kmSa, .int)] sz)) (k2_QcV (.int (-2))) 0 0 (fun _ => False) := by
  refine MET (y := yX12_button) (cc := cX12_button) (maxL := 3) (ret := (some .int)) (d := 1) (mc := 0) (ms := 0) (D := D) (ad := ad) (ws := [(m0, .inr (10, [.ref mTa, .int 0, .int 0, .ref mSi, .ref mLe, .ref mCl, .ref mCs, .ref mRe, .int 0, .int 0, .int 0, .int 0, .int 0, .int 0, .int 0, .ref mOp, .int 0, .ref mSt, .int 0, .ref mWo, .ref mSa, .int 0, .ref mWa, .int 0, .ref mFa, .ref mQu, .ref mIs, .int 0, .int 0, .long 0, .ref mIm, .ref mIx, .ref mMa])), (mSa, .inl (kmSa, 133, .inl sd0))]) (tys := [(kmSa, .int)]) (sz := sz) (av := [.ref m0, .int a1, .int a2]) (Qc := fun A => k2_QcV (.int (-2))) (fr := fun A => (fun _ => False)) (by decide) (Nat.le_of_ble_eq_true rfl) ?_
  intro p e s m below meth c ls A H hHe hx hb hr hml hown hts hlocks hnm hP hK hD hA hS hN hl
  have hown : s.vm.findClass "WrongHoleModel" = some m.cls := hown
  have hT : ∀ w ∈ TB, w.before ([.ref m0, .int a1, .int a2] : List Value).toArray s = true := fun w h => hts w (List.mem_cons_of_mem _ h)
  have hl : lv_has ls 3 [(0, .ref m0), (1, .int a1), (2, .int a2)] := hl
  have hP : va_P D vwCl [(m0, .inr (10, [.ref mTa, .int 0, .int 0, .ref mSi, .ref mLe, .ref mCl, .ref mCs, .ref mRe, .int 0, .int 0, .int 0, .int 0, .int 0, .int 0, .int 0, .ref mOp, .int 0, .ref mSt, .int 0, .ref mWo, .ref mSa, .int 0, .ref mWa, .int 0, .ref mFa, .ref mQu, .ref mIs, .int 0, .int 0, .long 0, .ref mIm, .ref mIx, .ref mMa])), (mSa, .inl (kmSa, 133, .inl sd0))] H := hP
  refine lv_aload_n hx hb dX12_button_0 rfl (lv_at hl 0 rfl) ?_
  refine lv_iload_n hx hb dX12_button_1 rfl (lv_at hl 1 rfl) ?_
  have hPc := hP.sub (ws' := [(m0, .inr (10, [.ref mTa, .int 0, .int 0, .ref mSi, .ref mLe, .ref mCl, .ref mCs, .ref mRe, .int 0, .int 0, .int 0, .int 0, .int 0, .int 0, .int 0, .ref mOp, .int 0, .ref mSt, .int 0, .ref mWo, .ref mSa, .int 0, .ref mWa, .int 0, .ref mFa, .ref mQu, .ref mIs, .int 0, .int 0, .long 0, .ref mIm, .ref mIx, .ref mMa])), (mSa, .inl (kmSa, 133, .inl sd0))]) [0, 1] rfl
  have hDc := hD.sub (ws' := [(m0, .inr (10, [.ref mTa, .int 0, .int 0, .ref mSi, .ref mLe, .ref mCl, .ref mCs, .ref mRe, .int 0, .int 0, .int 0, .int 0, .int 0, .int 0, .int 0, .ref mOp, .int 0, .ref mSt, .int 0, .ref mWo, .ref mSa, .int 0, .ref mWa, .int 0, .ref mFa, .ref mQu, .ref mIs, .int 0, .int 0, .long 0, .ref mIm, .ref mIx, .ref mMa])), (mSa, .inl (kmSa, 133, .inl sd0))]) [0, 1] (by decide) rfl
  have hKc := hK.sub (tys' := [(kmSa, .int)]) [0] rfl
  refine cl_V (W.runV (As := [.int a1]) (rest := []) ⟨hx, hb, hml, hown, hts⟩ (c_isButton l D ad H.size m0 mTa mSi mLe mCl mCs mRe mOp mSt mWo mSa mWa mFa mQu mIs mIm mIx mMa kmSa a1) ⟨callB_of 1 hts (gd_C qq_7_4) rfl rfl rfl (hT _ qq_1_9) (hT _ qq_7_1) (by decide +kernel) (rm_R rfl rfl), (hT _ qq_7_3), (hT _ qs_4_10)⟩ (pr_V hPc hKc hDc hN (ci := 10) (q0 := 0) rfl rfl) rfl rfl hl.1 rfl (lv_room (Nat.le_of_ble_eq_true rfl)) dX12_button_2 ⟨Nat.le_of_ble_eq_true rfl, Nat.le_of_ble_eq_true rfl⟩) ?_
  refine lv_if_eq (tgt := 20) hx hb dX12_button_5 (by decide) (fun _ => ?_) (fun c_1 => absurd (by decide) c_1)
  refine lv_bipush (v := (-2)) hx hb dX12_button_20 (by decide) ?_
  exact W.iret (v := (-2)) hx hb hr (fun t9 ht9 hW9 => ⟨rfl, ht9.trans hHe⟩) (fun _ h9 => absurd h9 List.not_mem_nil) dX12_button_22
theorem dX12_hole_0 : decode cX12_hole 0 = .ok (.aload_n 0, 1) := by decide +kernel
theorem dX12_hole_1 : decode cX12_hole 1 = .ok (.iload_n 1, 1) := by decide +kernel
theorem dX12_hole_2 : decode cX12_hole 2 = .ok (.invokevirtual 371, 3) := by decide +kernel
theorem qq_7_37 : Cond.code yX12_isHole cX12_isHole 2 (some .boolean) ∈ TB := mk_tb (ti_7 (List.mem_of_getElem? (i := 37) rfl)) rfl
theorem qq_7_34 : Cond.methodLink "WrongHoleModel" 371 yX12_isHole ∈ TB := mk_tb (ti_7 (List.mem_of_getElem? (i := 34) rfl)) rfl
theorem qq_7_36 : Cond.instanceMethod yX12_isHole ∈ TB := mk_tb (ti_7 (List.mem_of_getElem? (i := 36) rfl)) rfl
theorem qs_5_1 : Cond.selects "WrongHoleModel" yX12_isHole yX12_isHole ∈ TB := mk_tb (ti_s (q := (yX12_isHole, 33)) (List.mem_append_right _ (List.mem_append_right _ (List.mem_append_right _ (List.mem_append_right _ (List.mem_append_right _ (List.mem_append_left _ (List.mem_of_getElem? (i := 1) rfl)))))))) rfl
theorem dX12_hole_5 : decode cX12_hole 5 = .ok (.ifCond .eq 15, 3) := by decide +kernel
theorem dX12_hole_20 : decode cX12_hole 20 = .ok (.bipush (-2), 2) := by decide +kernel
theorem dX12_hole_22 : decode cX12_hole 22 = .ok (.ireturn, 1) := by decide +kernel
set_option maxHeartbeats 4000000 in
set_option maxRecDepth 100000 in
theorem c_m_hole (l : Launch) (D : va_G) (ad : Nat → Nat) (sz : Nat) (m0 : Nat) (mTa : Nat) (mSi : Nat) (mLe : Nat) (mCl : Nat) (mCs : Nat) (mRe : Nat) (mOp : Nat) (mSt : Nat) (mWo : Nat) (mSa : Nat) (mWa : Nat) (mFa : Nat) (mQu : Nat) (mIs : Nat) (mIm : Nat) (mIx : Nat) (mMa : Nat) (kmSa : ClassId) (a1 : Int32) (a2 : Int32)  : Met l yX12_hole (Cond.code yX12_hole cX12_hole 4 (some .int) :: TB) (RM 1 0 0) (va_Pc [.ref m0, .int a1, .int a2] (PRE D ad [(m0, .inr (10, [.ref mTa, .int 0, .int 0, .ref mSi, .ref mLe, .ref mCl, .ref mCs, .ref mRe, .int 0, .int 0, .int 0, .int 0, .int 0, .int 0, .int 0, .ref mOp, .int 0, .ref mSt, .int 0, .ref mWo, .ref mSa, .int 0, .ref mWa, .int 0, .ref mFa, .ref mQu, .ref mIs, .int 0, .int 0, .long 0, .ref mIm, .ref mIx, .ref mMa])), (mSa, .inl (kmSa, 133, .inl sd0))] [(kmSa, .int)] sz)) (k2_QcV (.int (-2))) 0 0 (fun _ => False) := by
  refine MET (y := yX12_hole) (cc := cX12_hole) (maxL := 4) (ret := (some .int)) (d := 1) (mc := 0) (ms := 0) (D := D) (ad := ad) (ws := [(m0, .inr (10, [.ref mTa, .int 0, .int 0, .ref mSi, .ref mLe, .ref mCl, .ref mCs, .ref mRe, .int 0, .int 0, .int 0, .int 0, .int 0, .int 0, .int 0, .ref mOp, .int 0, .ref mSt, .int 0, .ref mWo, .ref mSa, .int 0, .ref mWa, .int 0, .ref mFa, .ref mQu, .ref mIs, .int 0, .int 0, .long 0, .ref mIm, .ref mIx, .ref mMa])), (mSa, .inl (kmSa, 133, .inl sd0))]) (tys := [(kmSa, .int)]) (sz := sz) (av := [.ref m0, .int a1, .int a2]) (Qc := fun A => k2_QcV (.int (-2))) (fr := fun A => (fun _ => False)) (by decide) (Nat.le_of_ble_eq_true rfl) ?_
  intro p e s m below meth c ls A H hHe hx hb hr hml hown hts hlocks hnm hP hK hD hA hS hN hl
  have hown : s.vm.findClass "WrongHoleModel" = some m.cls := hown
  have hT : ∀ w ∈ TB, w.before ([.ref m0, .int a1, .int a2] : List Value).toArray s = true := fun w h => hts w (List.mem_cons_of_mem _ h)
  have hl : lv_has ls 4 [(0, .ref m0), (1, .int a1), (2, .int a2)] := hl
  have hP : va_P D vwCl [(m0, .inr (10, [.ref mTa, .int 0, .int 0, .ref mSi, .ref mLe, .ref mCl, .ref mCs, .ref mRe, .int 0, .int 0, .int 0, .int 0, .int 0, .int 0, .int 0, .ref mOp, .int 0, .ref mSt, .int 0, .ref mWo, .ref mSa, .int 0, .ref mWa, .int 0, .ref mFa, .ref mQu, .ref mIs, .int 0, .int 0, .long 0, .ref mIm, .ref mIx, .ref mMa])), (mSa, .inl (kmSa, 133, .inl sd0))] H := hP
  refine lv_aload_n hx hb dX12_hole_0 rfl (lv_at hl 0 rfl) ?_
  refine lv_iload_n hx hb dX12_hole_1 rfl (lv_at hl 1 rfl) ?_
  have hPc := hP.sub (ws' := [(m0, .inr (10, [.ref mTa, .int 0, .int 0, .ref mSi, .ref mLe, .ref mCl, .ref mCs, .ref mRe, .int 0, .int 0, .int 0, .int 0, .int 0, .int 0, .int 0, .ref mOp, .int 0, .ref mSt, .int 0, .ref mWo, .ref mSa, .int 0, .ref mWa, .int 0, .ref mFa, .ref mQu, .ref mIs, .int 0, .int 0, .long 0, .ref mIm, .ref mIx, .ref mMa])), (mSa, .inl (kmSa, 133, .inl sd0))]) [0, 1] rfl
  have hDc := hD.sub (ws' := [(m0, .inr (10, [.ref mTa, .int 0, .int 0, .ref mSi, .ref mLe, .ref mCl, .ref mCs, .ref mRe, .int 0, .int 0, .int 0, .int 0, .int 0, .int 0, .int 0, .ref mOp, .int 0, .ref mSt, .int 0, .ref mWo, .ref mSa, .int 0, .ref mWa, .int 0, .ref mFa, .ref mQu, .ref mIs, .int 0, .int 0, .long 0, .ref mIm, .ref mIx, .ref mMa])), (mSa, .inl (kmSa, 133, .inl sd0))]) [0, 1] (by decide) rfl
  have hKc := hK.sub (tys' := [(kmSa, .int)]) [0] rfl
  refine cl_V (W.runV (As := [.int a1]) (rest := []) ⟨hx, hb, hml, hown, hts⟩ (c_isHole l D ad H.size m0 mTa mSi mLe mCl mCs mRe mOp mSt mWo mSa mWa mFa mQu mIs mIm mIx mMa kmSa a1) ⟨callB_of 1 hts (gd_C qq_7_37) rfl rfl rfl (hT _ qq_1_9) (hT _ qq_7_34) (by decide +kernel) (rm_R rfl rfl), (hT _ qq_7_36), (hT _ qs_5_1)⟩ (pr_V hPc hKc hDc hN (ci := 10) (q0 := 0) rfl rfl) rfl rfl hl.1 rfl (lv_room (Nat.le_of_ble_eq_true rfl)) dX12_hole_2 ⟨Nat.le_of_ble_eq_true rfl, Nat.le_of_ble_eq_true rfl⟩) ?_
  refine lv_if_eq (tgt := 20) hx hb dX12_hole_5 (by decide) (fun _ => ?_) (fun c_1 => absurd (by decide) c_1)
  refine lv_bipush (v := (-2)) hx hb dX12_hole_20 (by decide) ?_
  exact W.iret (v := (-2)) hx hb hr (fun t9 ht9 hW9 => ⟨rfl, ht9.trans hHe⟩) (fun _ h9 => absurd h9 List.not_mem_nil) dX12_hole_22
theorem dX12_row_0 : decode cX12_row 0 = .ok (.aload_n 0, 1) := by decide +kernel
theorem dX12_row_1 : decode cX12_row 1 = .ok (.invokevirtual 397, 3) := by decide +kernel
theorem qq_7_46 : Cond.code yX12_isLift cX12_isLift 1 (some .boolean) ∈ TB := mk_tb (ti_7 (List.mem_of_getElem? (i := 46) rfl)) rfl
theorem qq_7_43 : Cond.methodLink "WrongHoleModel" 397 yX12_isLift ∈ TB := mk_tb (ti_7 (List.mem_of_getElem? (i := 43) rfl)) rfl
theorem qq_7_45 : Cond.instanceMethod yX12_isLift ∈ TB := mk_tb (ti_7 (List.mem_of_getElem? (i := 45) rfl)) rfl
theorem qs_5_2 : Cond.selects "WrongHoleModel" yX12_isLift yX12_isLift ∈ TB := mk_tb (ti_s (q := (yX12_isLift, 33)) (List.mem_append_right _ (List.mem_append_right _ (List.mem_append_right _ (List.mem_append_right _ (List.mem_append_right _ (List.mem_append_left _ (List.mem_of_getElem? (i := 2) rfl)))))))) rfl
theorem dX12_row_4 : decode cX12_row 4 = .ok (.ifCond .eq 15, 3) := by decide +kernel
theorem dX12_row_19 : decode cX12_row 19 = .ok (.iconst (-1), 1) := by decide +kernel
theorem dX12_row_20 : decode cX12_row 20 = .ok (.ireturn, 1) := by decide +kernel
set_option maxHeartbeats 4000000 in
set_option maxRecDepth 100000 in
theorem c_m_row (l : Launch) (D : va_G) (ad : Nat → Nat) (sz : Nat) (m0 : Nat) (mTa : Nat) (mSi : Nat) (mLe : Nat) (mCl : Nat) (mCs : Nat) (mRe : Nat) (mOp : Nat) (mSt : Nat) (mWo : Nat) (mSa : Nat) (mWa : Nat) (mFa : Nat) (mQu : Nat) (mIs : Nat) (mIm : Nat) (mIx : Nat) (mMa : Nat) (kmSa : ClassId) (a1 : Int32)  : Met l yX12_row (Cond.code yX12_row cX12_row 3 (some .int) :: TB) (RM 1 0 0) (va_Pc [.ref m0, .int a1] (PRE D ad [(m0, .inr (10, [.ref mTa, .int 0, .int 0, .ref mSi, .ref mLe, .ref mCl, .ref mCs, .ref mRe, .int 0, .int 0, .int 0, .int 0, .int 0, .int 0, .int 0, .ref mOp, .int 0, .ref mSt, .int 0, .ref mWo, .ref mSa, .int 0, .ref mWa, .int 0, .ref mFa, .ref mQu, .ref mIs, .int 0, .int 0, .long 0, .ref mIm, .ref mIx, .ref mMa])), (mSa, .inl (kmSa, 133, .inl sd0))] [(kmSa, .int)] sz)) (k2_QcV (.int (-1))) 0 0 (fun _ => False) := by
  refine MET (y := yX12_row) (cc := cX12_row) (maxL := 3) (ret := (some .int)) (d := 1) (mc := 0) (ms := 0) (D := D) (ad := ad) (ws := [(m0, .inr (10, [.ref mTa, .int 0, .int 0, .ref mSi, .ref mLe, .ref mCl, .ref mCs, .ref mRe, .int 0, .int 0, .int 0, .int 0, .int 0, .int 0, .int 0, .ref mOp, .int 0, .ref mSt, .int 0, .ref mWo, .ref mSa, .int 0, .ref mWa, .int 0, .ref mFa, .ref mQu, .ref mIs, .int 0, .int 0, .long 0, .ref mIm, .ref mIx, .ref mMa])), (mSa, .inl (kmSa, 133, .inl sd0))]) (tys := [(kmSa, .int)]) (sz := sz) (av := [.ref m0, .int a1]) (Qc := fun A => k2_QcV (.int (-1))) (fr := fun A => (fun _ => False)) (by decide) (Nat.le_of_ble_eq_true rfl) ?_
  intro p e s m below meth c ls A H hHe hx hb hr hml hown hts hlocks hnm hP hK hD hA hS hN hl
  have hown : s.vm.findClass "WrongHoleModel" = some m.cls := hown
  have hT : ∀ w ∈ TB, w.before ([.ref m0, .int a1] : List Value).toArray s = true := fun w h => hts w (List.mem_cons_of_mem _ h)
  have hl : lv_has ls 3 [(0, .ref m0), (1, .int a1)] := hl
  have hP : va_P D vwCl [(m0, .inr (10, [.ref mTa, .int 0, .int 0, .ref mSi, .ref mLe, .ref mCl, .ref mCs, .ref mRe, .int 0, .int 0, .int 0, .int 0, .int 0, .int 0, .int 0, .ref mOp, .int 0, .ref mSt, .int 0, .ref mWo, .ref mSa, .int 0, .ref mWa, .int 0, .ref mFa, .ref mQu, .ref mIs, .int 0, .int 0, .long 0, .ref mIm, .ref mIx, .ref mMa])), (mSa, .inl (kmSa, 133, .inl sd0))] H := hP
  refine lv_aload_n hx hb dX12_row_0 rfl (lv_at hl 0 rfl) ?_
  have hPc := hP.sub (ws' := [(m0, .inr (10, [.ref mTa, .int 0, .int 0, .ref mSi, .ref mLe, .ref mCl, .ref mCs, .ref mRe, .int 0, .int 0, .int 0, .int 0, .int 0, .int 0, .int 0, .ref mOp, .int 0, .ref mSt, .int 0, .ref mWo, .ref mSa, .int 0, .ref mWa, .int 0, .ref mFa, .ref mQu, .ref mIs, .int 0, .int 0, .long 0, .ref mIm, .ref mIx, .ref mMa])), (mSa, .inl (kmSa, 133, .inl sd0))]) [0, 1] rfl
  have hDc := hD.sub (ws' := [(m0, .inr (10, [.ref mTa, .int 0, .int 0, .ref mSi, .ref mLe, .ref mCl, .ref mCs, .ref mRe, .int 0, .int 0, .int 0, .int 0, .int 0, .int 0, .int 0, .ref mOp, .int 0, .ref mSt, .int 0, .ref mWo, .ref mSa, .int 0, .ref mWa, .int 0, .ref mFa, .ref mQu, .ref mIs, .int 0, .int 0, .long 0, .ref mIm, .ref mIx, .ref mMa])), (mSa, .inl (kmSa, 133, .inl sd0))]) [0, 1] (by decide) rfl
  have hKc := hK.sub (tys' := [(kmSa, .int)]) [0] rfl
  refine cl_V (W.runV (As := []) (rest := []) ⟨hx, hb, hml, hown, hts⟩ (c_isLift l D ad H.size m0 mTa mSi mLe mCl mCs mRe mOp mSt mWo mSa mWa mFa mQu mIs mIm mIx mMa kmSa) ⟨callB_of 0 hts (gd_C qq_7_46) rfl rfl rfl (hT _ qq_1_9) (hT _ qq_7_43) (by decide +kernel) (rm_R rfl rfl), (hT _ qq_7_45), (hT _ qs_5_2)⟩ (pr_V hPc hKc hDc hN (ci := 10) (q0 := 0) rfl rfl) rfl rfl hl.1 rfl (lv_room (Nat.le_of_ble_eq_true rfl)) dX12_row_1 ⟨Nat.le_of_ble_eq_true rfl, Nat.le_of_ble_eq_true rfl⟩) ?_
  refine lv_if_eq (tgt := 19) hx hb dX12_row_4 (by decide) (fun _ => ?_) (fun c_1 => absurd (by decide) c_1)
  refine lv_iconst (v := (-1)) hx hb dX12_row_19 (by decide) ?_
  exact W.iret (v := (-1)) hx hb hr (fun t9 ht9 hW9 => ⟨rfl, ht9.trans hHe⟩) (fun _ h9 => absurd h9 List.not_mem_nil) dX12_row_20
theorem dX12_shown_0 : decode cX12_shown 0 = .ok (.aload_n 0, 1) := by decide +kernel
theorem dX12_shown_1 : decode cX12_shown 1 = .ok (.invokevirtual 397, 3) := by decide +kernel
theorem dX12_shown_4 : decode cX12_shown 4 = .ok (.ifCond .eq 27, 3) := by decide +kernel
theorem dX12_shown_31 : decode cX12_shown 31 = .ok (.iconst (-1), 1) := by decide +kernel
theorem dX12_shown_32 : decode cX12_shown 32 = .ok (.ireturn, 1) := by decide +kernel
set_option maxHeartbeats 4000000 in
set_option maxRecDepth 100000 in
theorem c_m_shown (l : Launch) (D : va_G) (ad : Nat → Nat) (sz : Nat) (m0 : Nat) (mTa : Nat) (mSi : Nat) (mLe : Nat) (mCl : Nat) (mCs : Nat) (mRe : Nat) (mOp : Nat) (mSt : Nat) (mWo : Nat) (mSa : Nat) (mWa : Nat) (mFa : Nat) (mQu : Nat) (mIs : Nat) (mIm : Nat) (mIx : Nat) (mMa : Nat) (kmSa : ClassId) (a1 : Int32)  : Met l yX12_shown (Cond.code yX12_shown cX12_shown 2 (some .int) :: TB) (RM 1 0 0) (va_Pc [.ref m0, .int a1] (PRE D ad [(m0, .inr (10, [.ref mTa, .int 0, .int 0, .ref mSi, .ref mLe, .ref mCl, .ref mCs, .ref mRe, .int 0, .int 0, .int 0, .int 0, .int 0, .int 0, .int 0, .ref mOp, .int 0, .ref mSt, .int 0, .ref mWo, .ref mSa, .int 0, .ref mWa, .int 0, .ref mFa, .ref mQu, .ref mIs, .int 0, .int 0, .long 0, .ref mIm, .ref mIx, .ref mMa])), (mSa, .inl (kmSa, 133, .inl sd0))] [(kmSa, .int)] sz)) (k2_QcV (.int (-1))) 0 0 (fun _ => False) := by
  refine MET (y := yX12_shown) (cc := cX12_shown) (maxL := 2) (ret := (some .int)) (d := 1) (mc := 0) (ms := 0) (D := D) (ad := ad) (ws := [(m0, .inr (10, [.ref mTa, .int 0, .int 0, .ref mSi, .ref mLe, .ref mCl, .ref mCs, .ref mRe, .int 0, .int 0, .int 0, .int 0, .int 0, .int 0, .int 0, .ref mOp, .int 0, .ref mSt, .int 0, .ref mWo, .ref mSa, .int 0, .ref mWa, .int 0, .ref mFa, .ref mQu, .ref mIs, .int 0, .int 0, .long 0, .ref mIm, .ref mIx, .ref mMa])), (mSa, .inl (kmSa, 133, .inl sd0))]) (tys := [(kmSa, .int)]) (sz := sz) (av := [.ref m0, .int a1]) (Qc := fun A => k2_QcV (.int (-1))) (fr := fun A => (fun _ => False)) (by decide) (Nat.le_of_ble_eq_true rfl) ?_
  intro p e s m below meth c ls A H hHe hx hb hr hml hown hts hlocks hnm hP hK hD hA hS hN hl
  have hown : s.vm.findClass "WrongHoleModel" = some m.cls := hown
  have hT : ∀ w ∈ TB, w.before ([.ref m0, .int a1] : List Value).toArray s = true := fun w h => hts w (List.mem_cons_of_mem _ h)
  have hl : lv_has ls 2 [(0, .ref m0), (1, .int a1)] := hl
  have hP : va_P D vwCl [(m0, .inr (10, [.ref mTa, .int 0, .int 0, .ref mSi, .ref mLe, .ref mCl, .ref mCs, .ref mRe, .int 0, .int 0, .int 0, .int 0, .int 0, .int 0, .int 0, .ref mOp, .int 0, .ref mSt, .int 0, .ref mWo, .ref mSa, .int 0, .ref mWa, .int 0, .ref mFa, .ref mQu, .ref mIs, .int 0, .int 0, .long 0, .ref mIm, .ref mIx, .ref mMa])), (mSa, .inl (kmSa, 133, .inl sd0))] H := hP
  refine lv_aload_n hx hb dX12_shown_0 rfl (lv_at hl 0 rfl) ?_
  have hPc := hP.sub (ws' := [(m0, .inr (10, [.ref mTa, .int 0, .int 0, .ref mSi, .ref mLe, .ref mCl, .ref mCs, .ref mRe, .int 0, .int 0, .int 0, .int 0, .int 0, .int 0, .int 0, .ref mOp, .int 0, .ref mSt, .int 0, .ref mWo, .ref mSa, .int 0, .ref mWa, .int 0, .ref mFa, .ref mQu, .ref mIs, .int 0, .int 0, .long 0, .ref mIm, .ref mIx, .ref mMa])), (mSa, .inl (kmSa, 133, .inl sd0))]) [0, 1] rfl
  have hDc := hD.sub (ws' := [(m0, .inr (10, [.ref mTa, .int 0, .int 0, .ref mSi, .ref mLe, .ref mCl, .ref mCs, .ref mRe, .int 0, .int 0, .int 0, .int 0, .int 0, .int 0, .int 0, .ref mOp, .int 0, .ref mSt, .int 0, .ref mWo, .ref mSa, .int 0, .ref mWa, .int 0, .ref mFa, .ref mQu, .ref mIs, .int 0, .int 0, .long 0, .ref mIm, .ref mIx, .ref mMa])), (mSa, .inl (kmSa, 133, .inl sd0))]) [0, 1] (by decide) rfl
  have hKc := hK.sub (tys' := [(kmSa, .int)]) [0] rfl
  refine cl_V (W.runV (As := []) (rest := []) ⟨hx, hb, hml, hown, hts⟩ (c_isLift l D ad H.size m0 mTa mSi mLe mCl mCs mRe mOp mSt mWo mSa mWa mFa mQu mIs mIm mIx mMa kmSa) ⟨callB_of 0 hts (gd_C qq_7_46) rfl rfl rfl (hT _ qq_1_9) (hT _ qq_7_43) (by decide +kernel) (rm_R rfl rfl), (hT _ qq_7_45), (hT _ qs_5_2)⟩ (pr_V hPc hKc hDc hN (ci := 10) (q0 := 0) rfl rfl) rfl rfl hl.1 rfl (lv_room (Nat.le_of_ble_eq_true rfl)) dX12_shown_1 ⟨Nat.le_of_ble_eq_true rfl, Nat.le_of_ble_eq_true rfl⟩) ?_
  refine lv_if_eq (tgt := 31) hx hb dX12_shown_4 (by decide) (fun _ => ?_) (fun c_1 => absurd (by decide) c_1)
  refine lv_iconst (v := (-1)) hx hb dX12_shown_31 (by decide) ?_
  exact W.iret (v := (-1)) hx hb hr (fun t9 ht9 hW9 => ⟨rfl, ht9.trans hHe⟩) (fun _ h9 => absurd h9 List.not_mem_nil) dX12_shown_32
theorem dX12_unfasten_0 : decode cX12_unfasten 0 = .ok (.aload_n 0, 1) := by decide +kernel
theorem dX12_unfasten_1 : decode cX12_unfasten 1 = .ok (.iload_n 1, 1) := by decide +kernel
theorem dX12_unfasten_2 : decode cX12_unfasten 2 = .ok (.invokevirtual 365, 3) := by decide +kernel
theorem dX12_unfasten_5 : decode cX12_unfasten 5 = .ok (.ifCond .eq 11, 3) := by decide +kernel
theorem dX12_unfasten_16 : decode cX12_unfasten 16 = .ok (.iconst (-1), 1) := by decide +kernel
theorem dX12_unfasten_17 : decode cX12_unfasten 17 = .ok (.ireturn, 1) := by decide +kernel
set_option maxHeartbeats 4000000 in
set_option maxRecDepth 100000 in
theorem c_m_unfasten (l : Launch) (D : va_G) (ad : Nat → Nat) (sz : Nat) (m0 : Nat) (mTa : Nat) (mSi : Nat) (mLe : Nat) (mCl : Nat) (mCs : Nat) (mRe : Nat) (mOp : Nat) (mSt : Nat) (mWo : Nat) (mSa : Nat) (mWa : Nat) (mFa : Nat) (mQu : Nat) (mIs : Nat) (mIm : Nat) (mIx : Nat) (mMa : Nat) (kmSa : ClassId) (a1 : Int32)  : Met l yX12_unfasten (Cond.code yX12_unfasten cX12_unfasten 2 (some .int) :: TB) (RM 1 0 0) (va_Pc [.ref m0, .int a1] (PRE D ad [(m0, .inr (10, [.ref mTa, .int 0, .int 0, .ref mSi, .ref mLe, .ref mCl, .ref mCs, .ref mRe, .int 0, .int 0, .int 0, .int 0, .int 0, .int 0, .int 0, .ref mOp, .int 0, .ref mSt, .int 0, .ref mWo, .ref mSa, .int 0, .ref mWa, .int 0, .ref mFa, .ref mQu, .ref mIs, .int 0, .int 0, .long 0, .ref mIm, .ref mIx, .ref mMa])), (mSa, .inl (kmSa, 133, .inl sd0))] [(kmSa, .int)] sz)) (k2_QcV (.int (-1))) 0 0 (fun _ => False) := by
  refine MET (y := yX12_unfasten) (cc := cX12_unfasten) (maxL := 2) (ret := (some .int)) (d := 1) (mc := 0) (ms := 0) (D := D) (ad := ad) (ws := [(m0, .inr (10, [.ref mTa, .int 0, .int 0, .ref mSi, .ref mLe, .ref mCl, .ref mCs, .ref mRe, .int 0, .int 0, .int 0, .int 0, .int 0, .int 0, .int 0, .ref mOp, .int 0, .ref mSt, .int 0, .ref mWo, .ref mSa, .int 0, .ref mWa, .int 0, .ref mFa, .ref mQu, .ref mIs, .int 0, .int 0, .long 0, .ref mIm, .ref mIx, .ref mMa])), (mSa, .inl (kmSa, 133, .inl sd0))]) (tys := [(kmSa, .int)]) (sz := sz) (av := [.ref m0, .int a1]) (Qc := fun A => k2_QcV (.int (-1))) (fr := fun A => (fun _ => False)) (by decide) (Nat.le_of_ble_eq_true rfl) ?_
  intro p e s m below meth c ls A H hHe hx hb hr hml hown hts hlocks hnm hP hK hD hA hS hN hl
  have hown : s.vm.findClass "WrongHoleModel" = some m.cls := hown
  have hT : ∀ w ∈ TB, w.before ([.ref m0, .int a1] : List Value).toArray s = true := fun w h => hts w (List.mem_cons_of_mem _ h)
  have hl : lv_has ls 2 [(0, .ref m0), (1, .int a1)] := hl
  have hP : va_P D vwCl [(m0, .inr (10, [.ref mTa, .int 0, .int 0, .ref mSi, .ref mLe, .ref mCl, .ref mCs, .ref mRe, .int 0, .int 0, .int 0, .int 0, .int 0, .int 0, .int 0, .ref mOp, .int 0, .ref mSt, .int 0, .ref mWo, .ref mSa, .int 0, .ref mWa, .int 0, .ref mFa, .ref mQu, .ref mIs, .int 0, .int 0, .long 0, .ref mIm, .ref mIx, .ref mMa])), (mSa, .inl (kmSa, 133, .inl sd0))] H := hP
  refine lv_aload_n hx hb dX12_unfasten_0 rfl (lv_at hl 0 rfl) ?_
  refine lv_iload_n hx hb dX12_unfasten_1 rfl (lv_at hl 1 rfl) ?_
  have hPc := hP.sub (ws' := [(m0, .inr (10, [.ref mTa, .int 0, .int 0, .ref mSi, .ref mLe, .ref mCl, .ref mCs, .ref mRe, .int 0, .int 0, .int 0, .int 0, .int 0, .int 0, .int 0, .ref mOp, .int 0, .ref mSt, .int 0, .ref mWo, .ref mSa, .int 0, .ref mWa, .int 0, .ref mFa, .ref mQu, .ref mIs, .int 0, .int 0, .long 0, .ref mIm, .ref mIx, .ref mMa])), (mSa, .inl (kmSa, 133, .inl sd0))]) [0, 1] rfl
  have hDc := hD.sub (ws' := [(m0, .inr (10, [.ref mTa, .int 0, .int 0, .ref mSi, .ref mLe, .ref mCl, .ref mCs, .ref mRe, .int 0, .int 0, .int 0, .int 0, .int 0, .int 0, .int 0, .ref mOp, .int 0, .ref mSt, .int 0, .ref mWo, .ref mSa, .int 0, .ref mWa, .int 0, .ref mFa, .ref mQu, .ref mIs, .int 0, .int 0, .long 0, .ref mIm, .ref mIx, .ref mMa])), (mSa, .inl (kmSa, 133, .inl sd0))]) [0, 1] (by decide) rfl
  have hKc := hK.sub (tys' := [(kmSa, .int)]) [0] rfl
  refine cl_V (W.runV (As := [.int a1]) (rest := []) ⟨hx, hb, hml, hown, hts⟩ (c_isButton l D ad H.size m0 mTa mSi mLe mCl mCs mRe mOp mSt mWo mSa mWa mFa mQu mIs mIm mIx mMa kmSa a1) ⟨callB_of 1 hts (gd_C qq_7_4) rfl rfl rfl (hT _ qq_1_9) (hT _ qq_7_1) (by decide +kernel) (rm_R rfl rfl), (hT _ qq_7_3), (hT _ qs_4_10)⟩ (pr_V hPc hKc hDc hN (ci := 10) (q0 := 0) rfl rfl) rfl rfl hl.1 rfl (lv_room (Nat.le_of_ble_eq_true rfl)) dX12_unfasten_2 ⟨Nat.le_of_ble_eq_true rfl, Nat.le_of_ble_eq_true rfl⟩) ?_
  refine lv_if_eq (tgt := 16) hx hb dX12_unfasten_5 (by decide) (fun _ => ?_) (fun c_1 => absurd (by decide) c_1)
  refine lv_iconst (v := (-1)) hx hb dX12_unfasten_16 (by decide) ?_
  exact W.iret (v := (-1)) hx hb hr (fun t9 ht9 hW9 => ⟨rfl, ht9.trans hHe⟩) (fun _ h9 => absurd h9 List.not_mem_nil) dX12_unfasten_17
theorem dX12_fasten_0 : decode cX12_fasten 0 = .ok (.aload_n 0, 1) := by decide +kernel
theorem dX12_fasten_1 : decode cX12_fasten 1 = .ok (.iload_n 1, 1) := by decide +kernel
theorem dX12_fasten_2 : decode cX12_fasten 2 = .ok (.invokevirtual 365, 3) := by decide +kernel
theorem dX12_fasten_5 : decode cX12_fasten 5 = .ok (.ifCond .eq 27, 3) := by decide +kernel
theorem dX12_fasten_32 : decode cX12_fasten 32 = .ok (.iconst (-1), 1) := by decide +kernel
theorem dX12_fasten_33 : decode cX12_fasten 33 = .ok (.ireturn, 1) := by decide +kernel
set_option maxHeartbeats 4000000 in
set_option maxRecDepth 100000 in
theorem c_m_fasten (l : Launch) (D : va_G) (ad : Nat → Nat) (sz : Nat) (m0 : Nat) (mTa : Nat) (mSi : Nat) (mLe : Nat) (mCl : Nat) (mCs : Nat) (mRe : Nat) (mOp : Nat) (mSt : Nat) (mWo : Nat) (mSa : Nat) (mWa : Nat) (mFa : Nat) (mQu : Nat) (mIs : Nat) (mIm : Nat) (mIx : Nat) (mMa : Nat) (kmSa : ClassId) (a1 : Int32) (a2 : Int32)  : Met l yX12_fasten (Cond.code yX12_fasten cX12_fasten 3 (some .int) :: TB) (RM 1 0 0) (va_Pc [.ref m0, .int a1, .int a2] (PRE D ad [(m0, .inr (10, [.ref mTa, .int 0, .int 0, .ref mSi, .ref mLe, .ref mCl, .ref mCs, .ref mRe, .int 0, .int 0, .int 0, .int 0, .int 0, .int 0, .int 0, .ref mOp, .int 0, .ref mSt, .int 0, .ref mWo, .ref mSa, .int 0, .ref mWa, .int 0, .ref mFa, .ref mQu, .ref mIs, .int 0, .int 0, .long 0, .ref mIm, .ref mIx, .ref mMa])), (mSa, .inl (kmSa, 133, .inl sd0))] [(kmSa, .int)] sz)) (k2_QcV (.int (-1))) 0 0 (fun _ => False) := by
  refine MET (y := yX12_fasten) (cc := cX12_fasten) (maxL := 3) (ret := (some .int)) (d := 1) (mc := 0) (ms := 0) (D := D) (ad := ad) (ws := [(m0, .inr (10, [.ref mTa, .int 0, .int 0, .ref mSi, .ref mLe, .ref mCl, .ref mCs, .ref mRe, .int 0, .int 0, .int 0, .int 0, .int 0, .int 0, .int 0, .ref mOp, .int 0, .ref mSt, .int 0, .ref mWo, .ref mSa, .int 0, .ref mWa, .int 0, .ref mFa, .ref mQu, .ref mIs, .int 0, .int 0, .long 0, .ref mIm, .ref mIx, .ref mMa])), (mSa, .inl (kmSa, 133, .inl sd0))]) (tys := [(kmSa, .int)]) (sz := sz) (av := [.ref m0, .int a1, .int a2]) (Qc := fun A => k2_QcV (.int (-1))) (fr := fun A => (fun _ => False)) (by decide) (Nat.le_of_ble_eq_true rfl) ?_
  intro p e s m below meth c ls A H hHe hx hb hr hml hown hts hlocks hnm hP hK hD hA hS hN hl
  have hown : s.vm.findClass "WrongHoleModel" = some m.cls := hown
  have hT : ∀ w ∈ TB, w.before ([.ref m0, .int a1, .int a2] : List Value).toArray s = true := fun w h => hts w (List.mem_cons_of_mem _ h)
  have hl : lv_has ls 3 [(0, .ref m0), (1, .int a1), (2, .int a2)] := hl
  have hP : va_P D vwCl [(m0, .inr (10, [.ref mTa, .int 0, .int 0, .ref mSi, .ref mLe, .ref mCl, .ref mCs, .ref mRe, .int 0, .int 0, .int 0, .int 0, .int 0, .int 0, .int 0, .ref mOp, .int 0, .ref mSt, .int 0, .ref mWo, .ref mSa, .int 0, .ref mWa, .int 0, .ref mFa, .ref mQu, .ref mIs, .int 0, .int 0, .long 0, .ref mIm, .ref mIx, .ref mMa])), (mSa, .inl (kmSa, 133, .inl sd0))] H := hP
  refine lv_aload_n hx hb dX12_fasten_0 rfl (lv_at hl 0 rfl) ?_
  refine lv_iload_n hx hb dX12_fasten_1 rfl (lv_at hl 1 rfl) ?_
  have hPc := hP.sub (ws' := [(m0, .inr (10, [.ref mTa, .int 0, .int 0, .ref mSi, .ref mLe, .ref mCl, .ref mCs, .ref mRe, .int 0, .int 0, .int 0, .int 0, .int 0, .int 0, .int 0, .ref mOp, .int 0, .ref mSt, .int 0, .ref mWo, .ref mSa, .int 0, .ref mWa, .int 0, .ref mFa, .ref mQu, .ref mIs, .int 0, .int 0, .long 0, .ref mIm, .ref mIx, .ref mMa])), (mSa, .inl (kmSa, 133, .inl sd0))]) [0, 1] rfl
  have hDc := hD.sub (ws' := [(m0, .inr (10, [.ref mTa, .int 0, .int 0, .ref mSi, .ref mLe, .ref mCl, .ref mCs, .ref mRe, .int 0, .int 0, .int 0, .int 0, .int 0, .int 0, .int 0, .ref mOp, .int 0, .ref mSt, .int 0, .ref mWo, .ref mSa, .int 0, .ref mWa, .int 0, .ref mFa, .ref mQu, .ref mIs, .int 0, .int 0, .long 0, .ref mIm, .ref mIx, .ref mMa])), (mSa, .inl (kmSa, 133, .inl sd0))]) [0, 1] (by decide) rfl
  have hKc := hK.sub (tys' := [(kmSa, .int)]) [0] rfl
  refine cl_V (W.runV (As := [.int a1]) (rest := []) ⟨hx, hb, hml, hown, hts⟩ (c_isButton l D ad H.size m0 mTa mSi mLe mCl mCs mRe mOp mSt mWo mSa mWa mFa mQu mIs mIm mIx mMa kmSa a1) ⟨callB_of 1 hts (gd_C qq_7_4) rfl rfl rfl (hT _ qq_1_9) (hT _ qq_7_1) (by decide +kernel) (rm_R rfl rfl), (hT _ qq_7_3), (hT _ qs_4_10)⟩ (pr_V hPc hKc hDc hN (ci := 10) (q0 := 0) rfl rfl) rfl rfl hl.1 rfl (lv_room (Nat.le_of_ble_eq_true rfl)) dX12_fasten_2 ⟨Nat.le_of_ble_eq_true rfl, Nat.le_of_ble_eq_true rfl⟩) ?_
  refine lv_if_eq (tgt := 32) hx hb dX12_fasten_5 (by decide) (fun _ => ?_) (fun c_1 => absurd (by decide) c_1)
  refine lv_iconst (v := (-1)) hx hb dX12_fasten_32 (by decide) ?_
  exact W.iret (v := (-1)) hx hb hr (fun t9 ht9 hW9 => ⟨rfl, ht9.trans hHe⟩) (fun _ h9 => absurd h9 List.not_mem_nil) dX12_fasten_33
theorem dX12_waits_0 : decode cX12_waits 0 = .ok (.aload_n 0, 1) := by decide +kernel
theorem dX12_waits_1 : decode cX12_waits 1 = .ok (.invokevirtual 397, 3) := by decide +kernel
theorem dX12_waits_4 : decode cX12_waits 4 = .ok (.ifCond .eq 29, 3) := by decide +kernel
theorem dX12_waits_33 : decode cX12_waits 33 = .ok (.iconst (-1), 1) := by decide +kernel
theorem dX12_waits_34 : decode cX12_waits 34 = .ok (.ireturn, 1) := by decide +kernel
set_option maxHeartbeats 4000000 in
set_option maxRecDepth 100000 in
theorem c_m_waits (l : Launch) (D : va_G) (ad : Nat → Nat) (sz : Nat) (m0 : Nat) (mTa : Nat) (mSi : Nat) (mLe : Nat) (mCl : Nat) (mCs : Nat) (mRe : Nat) (mOp : Nat) (mSt : Nat) (mWo : Nat) (mSa : Nat) (mWa : Nat) (mFa : Nat) (mQu : Nat) (mIs : Nat) (mIm : Nat) (mIx : Nat) (mMa : Nat) (kmSa : ClassId) (a1 : Int32)  : Met l yX12_waits (Cond.code yX12_waits cX12_waits 2 (some .int) :: TB) (RM 1 0 0) (va_Pc [.ref m0, .int a1] (PRE D ad [(m0, .inr (10, [.ref mTa, .int 0, .int 0, .ref mSi, .ref mLe, .ref mCl, .ref mCs, .ref mRe, .int 0, .int 0, .int 0, .int 0, .int 0, .int 0, .int 0, .ref mOp, .int 0, .ref mSt, .int 0, .ref mWo, .ref mSa, .int 0, .ref mWa, .int 0, .ref mFa, .ref mQu, .ref mIs, .int 0, .int 0, .long 0, .ref mIm, .ref mIx, .ref mMa])), (mSa, .inl (kmSa, 133, .inl sd0))] [(kmSa, .int)] sz)) (k2_QcV (.int (-1))) 0 0 (fun _ => False) := by
  refine MET (y := yX12_waits) (cc := cX12_waits) (maxL := 2) (ret := (some .int)) (d := 1) (mc := 0) (ms := 0) (D := D) (ad := ad) (ws := [(m0, .inr (10, [.ref mTa, .int 0, .int 0, .ref mSi, .ref mLe, .ref mCl, .ref mCs, .ref mRe, .int 0, .int 0, .int 0, .int 0, .int 0, .int 0, .int 0, .ref mOp, .int 0, .ref mSt, .int 0, .ref mWo, .ref mSa, .int 0, .ref mWa, .int 0, .ref mFa, .ref mQu, .ref mIs, .int 0, .int 0, .long 0, .ref mIm, .ref mIx, .ref mMa])), (mSa, .inl (kmSa, 133, .inl sd0))]) (tys := [(kmSa, .int)]) (sz := sz) (av := [.ref m0, .int a1]) (Qc := fun A => k2_QcV (.int (-1))) (fr := fun A => (fun _ => False)) (by decide) (Nat.le_of_ble_eq_true rfl) ?_
  intro p e s m below meth c ls A H hHe hx hb hr hml hown hts hlocks hnm hP hK hD hA hS hN hl
  have hown : s.vm.findClass "WrongHoleModel" = some m.cls := hown
  have hT : ∀ w ∈ TB, w.before ([.ref m0, .int a1] : List Value).toArray s = true := fun w h => hts w (List.mem_cons_of_mem _ h)
  have hl : lv_has ls 2 [(0, .ref m0), (1, .int a1)] := hl
  have hP : va_P D vwCl [(m0, .inr (10, [.ref mTa, .int 0, .int 0, .ref mSi, .ref mLe, .ref mCl, .ref mCs, .ref mRe, .int 0, .int 0, .int 0, .int 0, .int 0, .int 0, .int 0, .ref mOp, .int 0, .ref mSt, .int 0, .ref mWo, .ref mSa, .int 0, .ref mWa, .int 0, .ref mFa, .ref mQu, .ref mIs, .int 0, .int 0, .long 0, .ref mIm, .ref mIx, .ref mMa])), (mSa, .inl (kmSa, 133, .inl sd0))] H := hP
  refine lv_aload_n hx hb dX12_waits_0 rfl (lv_at hl 0 rfl) ?_
  have hPc := hP.sub (ws' := [(m0, .inr (10, [.ref mTa, .int 0, .int 0, .ref mSi, .ref mLe, .ref mCl, .ref mCs, .ref mRe, .int 0, .int 0, .int 0, .int 0, .int 0, .int 0, .int 0, .ref mOp, .int 0, .ref mSt, .int 0, .ref mWo, .ref mSa, .int 0, .ref mWa, .int 0, .ref mFa, .ref mQu, .ref mIs, .int 0, .int 0, .long 0, .ref mIm, .ref mIx, .ref mMa])), (mSa, .inl (kmSa, 133, .inl sd0))]) [0, 1] rfl
  have hDc := hD.sub (ws' := [(m0, .inr (10, [.ref mTa, .int 0, .int 0, .ref mSi, .ref mLe, .ref mCl, .ref mCs, .ref mRe, .int 0, .int 0, .int 0, .int 0, .int 0, .int 0, .int 0, .ref mOp, .int 0, .ref mSt, .int 0, .ref mWo, .ref mSa, .int 0, .ref mWa, .int 0, .ref mFa, .ref mQu, .ref mIs, .int 0, .int 0, .long 0, .ref mIm, .ref mIx, .ref mMa])), (mSa, .inl (kmSa, 133, .inl sd0))]) [0, 1] (by decide) rfl
  have hKc := hK.sub (tys' := [(kmSa, .int)]) [0] rfl
  refine cl_V (W.runV (As := []) (rest := []) ⟨hx, hb, hml, hown, hts⟩ (c_isLift l D ad H.size m0 mTa mSi mLe mCl mCs mRe mOp mSt mWo mSa mWa mFa mQu mIs mIm mIx mMa kmSa) ⟨callB_of 0 hts (gd_C qq_7_46) rfl rfl rfl (hT _ qq_1_9) (hT _ qq_7_43) (by decide +kernel) (rm_R rfl rfl), (hT _ qq_7_45), (hT _ qs_5_2)⟩ (pr_V hPc hKc hDc hN (ci := 10) (q0 := 0) rfl rfl) rfl rfl hl.1 rfl (lv_room (Nat.le_of_ble_eq_true rfl)) dX12_waits_1 ⟨Nat.le_of_ble_eq_true rfl, Nat.le_of_ble_eq_true rfl⟩) ?_
  refine lv_if_eq (tgt := 33) hx hb dX12_waits_4 (by decide) (fun _ => ?_) (fun c_1 => absurd (by decide) c_1)
  refine lv_iconst (v := (-1)) hx hb dX12_waits_33 (by decide) ?_
  exact W.iret (v := (-1)) hx hb hr (fun t9 ht9 hW9 => ⟨rfl, ht9.trans hHe⟩) (fun _ h9 => absurd h9 List.not_mem_nil) dX12_waits_34
theorem dX12_takeBack_0 : decode cX12_takeBack 0 = .ok (.aload_n 0, 1) := by decide +kernel
theorem dX12_takeBack_1 : decode cX12_takeBack 1 = .ok (.getfield 301, 3) := by decide +kernel
theorem qq_5_175 : Cond.fieldLink "WrongHoleModel" 301 "WrongHoleModel" "undone" "I" ∈ TB := mk_tb (ti_5 (List.mem_of_getElem? (i := 175) rfl)) rfl
theorem dX12_takeBack_4 : decode cX12_takeBack 4 = .ok (.ifCond .ne 5, 3) := by decide +kernel
theorem dX12_takeBack_7 : decode cX12_takeBack 7 = .ok (.iconst (-1), 1) := by decide +kernel
theorem dX12_takeBack_8 : decode cX12_takeBack 8 = .ok (.ireturn, 1) := by decide +kernel
set_option maxHeartbeats 4000000 in
set_option maxRecDepth 100000 in
theorem c_m_takeBack (l : Launch) (D : va_G) (ad : Nat → Nat) (sz : Nat) (m0 : Nat) (mTa : Nat) (mSi : Nat) (mLe : Nat) (mCl : Nat) (mCs : Nat) (mRe : Nat) (mOp : Nat) (mSt : Nat) (mWo : Nat) (mSa : Nat) (mWa : Nat) (mFa : Nat) (mQu : Nat) (mIs : Nat) (mIm : Nat) (mIx : Nat) (mMa : Nat) (kmSa : ClassId)  : Met l yX12_takeBack (Cond.code yX12_takeBack cX12_takeBack 2 (some .int) :: TB) (RM 1 0 0) (va_Pc [.ref m0] (PRE D ad [(m0, .inr (10, [.ref mTa, .int 0, .int 0, .ref mSi, .ref mLe, .ref mCl, .ref mCs, .ref mRe, .int 0, .int 0, .int 0, .int 0, .int 0, .int 0, .int 0, .ref mOp, .int 0, .ref mSt, .int 0, .ref mWo, .ref mSa, .int 0, .ref mWa, .int 0, .ref mFa, .ref mQu, .ref mIs, .int 0, .int 0, .long 0, .ref mIm, .ref mIx, .ref mMa])), (mSa, .inl (kmSa, 133, .inl sd0))] [(kmSa, .int)] sz)) (k2_QcV (.int (-1))) 0 0 (fun _ => False) := by
  refine MET (y := yX12_takeBack) (cc := cX12_takeBack) (maxL := 2) (ret := (some .int)) (d := 1) (mc := 0) (ms := 0) (D := D) (ad := ad) (ws := [(m0, .inr (10, [.ref mTa, .int 0, .int 0, .ref mSi, .ref mLe, .ref mCl, .ref mCs, .ref mRe, .int 0, .int 0, .int 0, .int 0, .int 0, .int 0, .int 0, .ref mOp, .int 0, .ref mSt, .int 0, .ref mWo, .ref mSa, .int 0, .ref mWa, .int 0, .ref mFa, .ref mQu, .ref mIs, .int 0, .int 0, .long 0, .ref mIm, .ref mIx, .ref mMa])), (mSa, .inl (kmSa, 133, .inl sd0))]) (tys := [(kmSa, .int)]) (sz := sz) (av := [.ref m0]) (Qc := fun A => k2_QcV (.int (-1))) (fr := fun A => (fun _ => False)) (by decide) (Nat.le_of_ble_eq_true rfl) ?_
  intro p e s m below meth c ls A H hHe hx hb hr hml hown hts hlocks hnm hP hK hD hA hS hN hl
  have hown : s.vm.findClass "WrongHoleModel" = some m.cls := hown
  have hT : ∀ w ∈ TB, w.before ([.ref m0] : List Value).toArray s = true := fun w h => hts w (List.mem_cons_of_mem _ h)
  have hl : lv_has ls 2 [(0, .ref m0)] := hl
  have hP : va_P D vwCl [(m0, .inr (10, [.ref mTa, .int 0, .int 0, .ref mSi, .ref mLe, .ref mCl, .ref mCs, .ref mRe, .int 0, .int 0, .int 0, .int 0, .int 0, .int 0, .int 0, .ref mOp, .int 0, .ref mSt, .int 0, .ref mWo, .ref mSa, .int 0, .ref mWa, .int 0, .ref mFa, .ref mQu, .ref mIs, .int 0, .int 0, .long 0, .ref mIm, .ref mIx, .ref mMa])), (mSa, .inl (kmSa, 133, .inl sd0))] H := hP
  refine lv_aload_n hx hb dX12_takeBack_0 rfl (lv_at hl 0 rfl) ?_
  refine va_get (D := D) (ci := 10) (v := .int 0) (C := "WrongHoleModel") (T := TX12) (N := 33) hx hb hts (iq_RX12 _) hown hK hP 0 rfl rfl 23 (by decide) (hT _ qq_5_175) (fun _ h9 => h9) rfl dX12_takeBack_1 ?_
  refine lv_if_ne (tgt := 9) hx hb dX12_takeBack_4 (by decide) (fun c_1 => absurd (by decide) c_1) (fun _ => ?_)
  refine lv_iconst (v := (-1)) hx hb dX12_takeBack_7 (by decide) ?_
  exact W.iret (v := (-1)) hx hb hr (fun t9 ht9 hW9 => ⟨rfl, ht9.trans hHe⟩) (fun _ h9 => absurd h9 List.not_mem_nil) dX12_takeBack_8
theorem dX12_run_0 : decode cX12_run 0 = .ok (.aload_n 0, 1) := by decide +kernel
theorem dX12_run_1 : decode cX12_run 1 = .ok (.invokevirtual 397, 3) := by decide +kernel
theorem dX12_run_4 : decode cX12_run 4 = .ok (.ifCond .eq 23, 3) := by decide +kernel
theorem dX12_run_27 : decode cX12_run 27 = .ok (.iconst (-1), 1) := by decide +kernel
theorem dX12_run_28 : decode cX12_run 28 = .ok (.ireturn, 1) := by decide +kernel
set_option maxHeartbeats 4000000 in
set_option maxRecDepth 100000 in
theorem c_m_run (l : Launch) (D : va_G) (ad : Nat → Nat) (sz : Nat) (m0 : Nat) (mTa : Nat) (mSi : Nat) (mLe : Nat) (mCl : Nat) (mCs : Nat) (mRe : Nat) (mOp : Nat) (mSt : Nat) (mWo : Nat) (mSa : Nat) (mWa : Nat) (mFa : Nat) (mQu : Nat) (mIs : Nat) (mIm : Nat) (mIx : Nat) (mMa : Nat) (kmSa : ClassId) (a1 : Int32) (a2 : Int32)  : Met l yX12_run (Cond.code yX12_run cX12_run 5 (some .int) :: TB) (RM 1 0 0) (va_Pc [.ref m0, .int a1, .int a2] (PRE D ad [(m0, .inr (10, [.ref mTa, .int 0, .int 0, .ref mSi, .ref mLe, .ref mCl, .ref mCs, .ref mRe, .int 0, .int 0, .int 0, .int 0, .int 0, .int 0, .int 0, .ref mOp, .int 0, .ref mSt, .int 0, .ref mWo, .ref mSa, .int 0, .ref mWa, .int 0, .ref mFa, .ref mQu, .ref mIs, .int 0, .int 0, .long 0, .ref mIm, .ref mIx, .ref mMa])), (mSa, .inl (kmSa, 133, .inl sd0))] [(kmSa, .int)] sz)) (k2_QcV (.int (-1))) 0 0 (fun _ => False) := by
  refine MET (y := yX12_run) (cc := cX12_run) (maxL := 5) (ret := (some .int)) (d := 1) (mc := 0) (ms := 0) (D := D) (ad := ad) (ws := [(m0, .inr (10, [.ref mTa, .int 0, .int 0, .ref mSi, .ref mLe, .ref mCl, .ref mCs, .ref mRe, .int 0, .int 0, .int 0, .int 0, .int 0, .int 0, .int 0, .ref mOp, .int 0, .ref mSt, .int 0, .ref mWo, .ref mSa, .int 0, .ref mWa, .int 0, .ref mFa, .ref mQu, .ref mIs, .int 0, .int 0, .long 0, .ref mIm, .ref mIx, .ref mMa])), (mSa, .inl (kmSa, 133, .inl sd0))]) (tys := [(kmSa, .int)]) (sz := sz) (av := [.ref m0, .int a1, .int a2]) (Qc := fun A => k2_QcV (.int (-1))) (fr := fun A => (fun _ => False)) (by decide) (Nat.le_of_ble_eq_true rfl) ?_
  intro p e s m below meth c ls A H hHe hx hb hr hml hown hts hlocks hnm hP hK hD hA hS hN hl
  have hown : s.vm.findClass "WrongHoleModel" = some m.cls := hown
  have hT : ∀ w ∈ TB, w.before ([.ref m0, .int a1, .int a2] : List Value).toArray s = true := fun w h => hts w (List.mem_cons_of_mem _ h)
  have hl : lv_has ls 5 [(0, .ref m0), (1, .int a1), (2, .int a2)] := hl
  have hP : va_P D vwCl [(m0, .inr (10, [.ref mTa, .int 0, .int 0, .ref mSi, .ref mLe, .ref mCl, .ref mCs, .ref mRe, .int 0, .int 0, .int 0, .int 0, .int 0, .int 0, .int 0, .ref mOp, .int 0, .ref mSt, .int 0, .ref mWo, .ref mSa, .int 0, .ref mWa, .int 0, .ref mFa, .ref mQu, .ref mIs, .int 0, .int 0, .long 0, .ref mIm, .ref mIx, .ref mMa])), (mSa, .inl (kmSa, 133, .inl sd0))] H := hP
  refine lv_aload_n hx hb dX12_run_0 rfl (lv_at hl 0 rfl) ?_
  have hPc := hP.sub (ws' := [(m0, .inr (10, [.ref mTa, .int 0, .int 0, .ref mSi, .ref mLe, .ref mCl, .ref mCs, .ref mRe, .int 0, .int 0, .int 0, .int 0, .int 0, .int 0, .int 0, .ref mOp, .int 0, .ref mSt, .int 0, .ref mWo, .ref mSa, .int 0, .ref mWa, .int 0, .ref mFa, .ref mQu, .ref mIs, .int 0, .int 0, .long 0, .ref mIm, .ref mIx, .ref mMa])), (mSa, .inl (kmSa, 133, .inl sd0))]) [0, 1] rfl
  have hDc := hD.sub (ws' := [(m0, .inr (10, [.ref mTa, .int 0, .int 0, .ref mSi, .ref mLe, .ref mCl, .ref mCs, .ref mRe, .int 0, .int 0, .int 0, .int 0, .int 0, .int 0, .int 0, .ref mOp, .int 0, .ref mSt, .int 0, .ref mWo, .ref mSa, .int 0, .ref mWa, .int 0, .ref mFa, .ref mQu, .ref mIs, .int 0, .int 0, .long 0, .ref mIm, .ref mIx, .ref mMa])), (mSa, .inl (kmSa, 133, .inl sd0))]) [0, 1] (by decide) rfl
  have hKc := hK.sub (tys' := [(kmSa, .int)]) [0] rfl
  refine cl_V (W.runV (As := []) (rest := []) ⟨hx, hb, hml, hown, hts⟩ (c_isLift l D ad H.size m0 mTa mSi mLe mCl mCs mRe mOp mSt mWo mSa mWa mFa mQu mIs mIm mIx mMa kmSa) ⟨callB_of 0 hts (gd_C qq_7_46) rfl rfl rfl (hT _ qq_1_9) (hT _ qq_7_43) (by decide +kernel) (rm_R rfl rfl), (hT _ qq_7_45), (hT _ qs_5_2)⟩ (pr_V hPc hKc hDc hN (ci := 10) (q0 := 0) rfl rfl) rfl rfl hl.1 rfl (lv_room (Nat.le_of_ble_eq_true rfl)) dX12_run_1 ⟨Nat.le_of_ble_eq_true rfl, Nat.le_of_ble_eq_true rfl⟩) ?_
  refine lv_if_eq (tgt := 27) hx hb dX12_run_4 (by decide) (fun _ => ?_) (fun c_1 => absurd (by decide) c_1)
  refine lv_iconst (v := (-1)) hx hb dX12_run_27 (by decide) ?_
  exact W.iret (v := (-1)) hx hb hr (fun t9 ht9 hW9 => ⟨rfl, ht9.trans hHe⟩) (fun _ h9 => absurd h9 List.not_mem_nil) dX12_run_28
theorem dX12_may_0 : decode cX12_may 0 = .ok (.aload_n 0, 1) := by decide +kernel
theorem dX12_may_1 : decode cX12_may 1 = .ok (.invokevirtual 397, 3) := by decide +kernel
theorem dX12_may_4 : decode cX12_may 4 = .ok (.ifCond .eq 14, 3) := by decide +kernel
theorem dX12_may_18 : decode cX12_may 18 = .ok (.iconst (-1), 1) := by decide +kernel
theorem dX12_may_19 : decode cX12_may 19 = .ok (.ireturn, 1) := by decide +kernel
set_option maxHeartbeats 4000000 in
set_option maxRecDepth 100000 in
theorem c_m_may (l : Launch) (D : va_G) (ad : Nat → Nat) (sz : Nat) (m0 : Nat) (mTa : Nat) (mSi : Nat) (mLe : Nat) (mCl : Nat) (mCs : Nat) (mRe : Nat) (mOp : Nat) (mSt : Nat) (mWo : Nat) (mSa : Nat) (mWa : Nat) (mFa : Nat) (mQu : Nat) (mIs : Nat) (mIm : Nat) (mIx : Nat) (mMa : Nat) (kmSa : ClassId)  : Met l yX12_may (Cond.code yX12_may cX12_may 1 (some .int) :: TB) (RM 1 0 0) (va_Pc [.ref m0] (PRE D ad [(m0, .inr (10, [.ref mTa, .int 0, .int 0, .ref mSi, .ref mLe, .ref mCl, .ref mCs, .ref mRe, .int 0, .int 0, .int 0, .int 0, .int 0, .int 0, .int 0, .ref mOp, .int 0, .ref mSt, .int 0, .ref mWo, .ref mSa, .int 0, .ref mWa, .int 0, .ref mFa, .ref mQu, .ref mIs, .int 0, .int 0, .long 0, .ref mIm, .ref mIx, .ref mMa])), (mSa, .inl (kmSa, 133, .inl sd0))] [(kmSa, .int)] sz)) (k2_QcV (.int (-1))) 0 0 (fun _ => False) := by
  refine MET (y := yX12_may) (cc := cX12_may) (maxL := 1) (ret := (some .int)) (d := 1) (mc := 0) (ms := 0) (D := D) (ad := ad) (ws := [(m0, .inr (10, [.ref mTa, .int 0, .int 0, .ref mSi, .ref mLe, .ref mCl, .ref mCs, .ref mRe, .int 0, .int 0, .int 0, .int 0, .int 0, .int 0, .int 0, .ref mOp, .int 0, .ref mSt, .int 0, .ref mWo, .ref mSa, .int 0, .ref mWa, .int 0, .ref mFa, .ref mQu, .ref mIs, .int 0, .int 0, .long 0, .ref mIm, .ref mIx, .ref mMa])), (mSa, .inl (kmSa, 133, .inl sd0))]) (tys := [(kmSa, .int)]) (sz := sz) (av := [.ref m0]) (Qc := fun A => k2_QcV (.int (-1))) (fr := fun A => (fun _ => False)) (by decide) (Nat.le_of_ble_eq_true rfl) ?_
  intro p e s m below meth c ls A H hHe hx hb hr hml hown hts hlocks hnm hP hK hD hA hS hN hl
  have hown : s.vm.findClass "WrongHoleModel" = some m.cls := hown
  have hT : ∀ w ∈ TB, w.before ([.ref m0] : List Value).toArray s = true := fun w h => hts w (List.mem_cons_of_mem _ h)
  have hl : lv_has ls 1 [(0, .ref m0)] := hl
  have hP : va_P D vwCl [(m0, .inr (10, [.ref mTa, .int 0, .int 0, .ref mSi, .ref mLe, .ref mCl, .ref mCs, .ref mRe, .int 0, .int 0, .int 0, .int 0, .int 0, .int 0, .int 0, .ref mOp, .int 0, .ref mSt, .int 0, .ref mWo, .ref mSa, .int 0, .ref mWa, .int 0, .ref mFa, .ref mQu, .ref mIs, .int 0, .int 0, .long 0, .ref mIm, .ref mIx, .ref mMa])), (mSa, .inl (kmSa, 133, .inl sd0))] H := hP
  refine lv_aload_n hx hb dX12_may_0 rfl (lv_at hl 0 rfl) ?_
  have hPc := hP.sub (ws' := [(m0, .inr (10, [.ref mTa, .int 0, .int 0, .ref mSi, .ref mLe, .ref mCl, .ref mCs, .ref mRe, .int 0, .int 0, .int 0, .int 0, .int 0, .int 0, .int 0, .ref mOp, .int 0, .ref mSt, .int 0, .ref mWo, .ref mSa, .int 0, .ref mWa, .int 0, .ref mFa, .ref mQu, .ref mIs, .int 0, .int 0, .long 0, .ref mIm, .ref mIx, .ref mMa])), (mSa, .inl (kmSa, 133, .inl sd0))]) [0, 1] rfl
  have hDc := hD.sub (ws' := [(m0, .inr (10, [.ref mTa, .int 0, .int 0, .ref mSi, .ref mLe, .ref mCl, .ref mCs, .ref mRe, .int 0, .int 0, .int 0, .int 0, .int 0, .int 0, .int 0, .ref mOp, .int 0, .ref mSt, .int 0, .ref mWo, .ref mSa, .int 0, .ref mWa, .int 0, .ref mFa, .ref mQu, .ref mIs, .int 0, .int 0, .long 0, .ref mIm, .ref mIx, .ref mMa])), (mSa, .inl (kmSa, 133, .inl sd0))]) [0, 1] (by decide) rfl
  have hKc := hK.sub (tys' := [(kmSa, .int)]) [0] rfl
  refine cl_V (W.runV (As := []) (rest := []) ⟨hx, hb, hml, hown, hts⟩ (c_isLift l D ad H.size m0 mTa mSi mLe mCl mCs mRe mOp mSt mWo mSa mWa mFa mQu mIs mIm mIx mMa kmSa) ⟨callB_of 0 hts (gd_C qq_7_46) rfl rfl rfl (hT _ qq_1_9) (hT _ qq_7_43) (by decide +kernel) (rm_R rfl rfl), (hT _ qq_7_45), (hT _ qs_5_2)⟩ (pr_V hPc hKc hDc hN (ci := 10) (q0 := 0) rfl rfl) rfl rfl hl.1 rfl (lv_room (Nat.le_of_ble_eq_true rfl)) dX12_may_1 ⟨Nat.le_of_ble_eq_true rfl, Nat.le_of_ble_eq_true rfl⟩) ?_
  refine lv_if_eq (tgt := 18) hx hb dX12_may_4 (by decide) (fun _ => ?_) (fun c_1 => absurd (by decide) c_1)
  refine lv_iconst (v := (-1)) hx hb dX12_may_18 (by decide) ?_
  exact W.iret (v := (-1)) hx hb hr (fun t9 ht9 hW9 => ⟨rfl, ht9.trans hHe⟩) (fun _ h9 => absurd h9 List.not_mem_nil) dX12_may_19
theorem dX12_act_0 : decode cX12_act 0 = .ok (.aload_n 0, 1) := by decide +kernel
theorem dX12_act_1 : decode cX12_act 1 = .ok (.invokevirtual 397, 3) := by decide +kernel
theorem dX12_act_4 : decode cX12_act 4 = .ok (.ifCond .eq 19, 3) := by decide +kernel
theorem dX12_act_23 : decode cX12_act 23 = .ok (.iconst (-1), 1) := by decide +kernel
theorem dX12_act_24 : decode cX12_act 24 = .ok (.ireturn, 1) := by decide +kernel
set_option maxHeartbeats 4000000 in
set_option maxRecDepth 100000 in
theorem c_m_act (l : Launch) (D : va_G) (ad : Nat → Nat) (sz : Nat) (m0 : Nat) (mTa : Nat) (mSi : Nat) (mLe : Nat) (mCl : Nat) (mCs : Nat) (mRe : Nat) (mOp : Nat) (mSt : Nat) (mWo : Nat) (mSa : Nat) (mWa : Nat) (mFa : Nat) (mQu : Nat) (mIs : Nat) (mIm : Nat) (mIx : Nat) (mMa : Nat) (kmSa : ClassId) (a1 : Int32) (a2 : Int32)  : Met l yX12_act (Cond.code yX12_act cX12_act 5 (some .int) :: TB) (RM 1 0 0) (va_Pc [.ref m0, .int a1, .int a2] (PRE D ad [(m0, .inr (10, [.ref mTa, .int 0, .int 0, .ref mSi, .ref mLe, .ref mCl, .ref mCs, .ref mRe, .int 0, .int 0, .int 0, .int 0, .int 0, .int 0, .int 0, .ref mOp, .int 0, .ref mSt, .int 0, .ref mWo, .ref mSa, .int 0, .ref mWa, .int 0, .ref mFa, .ref mQu, .ref mIs, .int 0, .int 0, .long 0, .ref mIm, .ref mIx, .ref mMa])), (mSa, .inl (kmSa, 133, .inl sd0))] [(kmSa, .int)] sz)) (k2_QcV (.int (-1))) 0 0 (fun _ => False) := by
  refine MET (y := yX12_act) (cc := cX12_act) (maxL := 5) (ret := (some .int)) (d := 1) (mc := 0) (ms := 0) (D := D) (ad := ad) (ws := [(m0, .inr (10, [.ref mTa, .int 0, .int 0, .ref mSi, .ref mLe, .ref mCl, .ref mCs, .ref mRe, .int 0, .int 0, .int 0, .int 0, .int 0, .int 0, .int 0, .ref mOp, .int 0, .ref mSt, .int 0, .ref mWo, .ref mSa, .int 0, .ref mWa, .int 0, .ref mFa, .ref mQu, .ref mIs, .int 0, .int 0, .long 0, .ref mIm, .ref mIx, .ref mMa])), (mSa, .inl (kmSa, 133, .inl sd0))]) (tys := [(kmSa, .int)]) (sz := sz) (av := [.ref m0, .int a1, .int a2]) (Qc := fun A => k2_QcV (.int (-1))) (fr := fun A => (fun _ => False)) (by decide) (Nat.le_of_ble_eq_true rfl) ?_
  intro p e s m below meth c ls A H hHe hx hb hr hml hown hts hlocks hnm hP hK hD hA hS hN hl
  have hown : s.vm.findClass "WrongHoleModel" = some m.cls := hown
  have hT : ∀ w ∈ TB, w.before ([.ref m0, .int a1, .int a2] : List Value).toArray s = true := fun w h => hts w (List.mem_cons_of_mem _ h)
  have hl : lv_has ls 5 [(0, .ref m0), (1, .int a1), (2, .int a2)] := hl
  have hP : va_P D vwCl [(m0, .inr (10, [.ref mTa, .int 0, .int 0, .ref mSi, .ref mLe, .ref mCl, .ref mCs, .ref mRe, .int 0, .int 0, .int 0, .int 0, .int 0, .int 0, .int 0, .ref mOp, .int 0, .ref mSt, .int 0, .ref mWo, .ref mSa, .int 0, .ref mWa, .int 0, .ref mFa, .ref mQu, .ref mIs, .int 0, .int 0, .long 0, .ref mIm, .ref mIx, .ref mMa])), (mSa, .inl (kmSa, 133, .inl sd0))] H := hP
  refine lv_aload_n hx hb dX12_act_0 rfl (lv_at hl 0 rfl) ?_
  have hPc := hP.sub (ws' := [(m0, .inr (10, [.ref mTa, .int 0, .int 0, .ref mSi, .ref mLe, .ref mCl, .ref mCs, .ref mRe, .int 0, .int 0, .int 0, .int 0, .int 0, .int 0, .int 0, .ref mOp, .int 0, .ref mSt, .int 0, .ref mWo, .ref mSa, .int 0, .ref mWa, .int 0, .ref mFa, .ref mQu, .ref mIs, .int 0, .int 0, .long 0, .ref mIm, .ref mIx, .ref mMa])), (mSa, .inl (kmSa, 133, .inl sd0))]) [0, 1] rfl
  have hDc := hD.sub (ws' := [(m0, .inr (10, [.ref mTa, .int 0, .int 0, .ref mSi, .ref mLe, .ref mCl, .ref mCs, .ref mRe, .int 0, .int 0, .int 0, .int 0, .int 0, .int 0, .int 0, .ref mOp, .int 0, .ref mSt, .int 0, .ref mWo, .ref mSa, .int 0, .ref mWa, .int 0, .ref mFa, .ref mQu, .ref mIs, .int 0, .int 0, .long 0, .ref mIm, .ref mIx, .ref mMa])), (mSa, .inl (kmSa, 133, .inl sd0))]) [0, 1] (by decide) rfl
  have hKc := hK.sub (tys' := [(kmSa, .int)]) [0] rfl
  refine cl_V (W.runV (As := []) (rest := []) ⟨hx, hb, hml, hown, hts⟩ (c_isLift l D ad H.size m0 mTa mSi mLe mCl mCs mRe mOp mSt mWo mSa mWa mFa mQu mIs mIm mIx mMa kmSa) ⟨callB_of 0 hts (gd_C qq_7_46) rfl rfl rfl (hT _ qq_1_9) (hT _ qq_7_43) (by decide +kernel) (rm_R rfl rfl), (hT _ qq_7_45), (hT _ qs_5_2)⟩ (pr_V hPc hKc hDc hN (ci := 10) (q0 := 0) rfl rfl) rfl rfl hl.1 rfl (lv_room (Nat.le_of_ble_eq_true rfl)) dX12_act_1 ⟨Nat.le_of_ble_eq_true rfl, Nat.le_of_ble_eq_true rfl⟩) ?_
  refine lv_if_eq (tgt := 23) hx hb dX12_act_4 (by decide) (fun _ => ?_) (fun c_1 => absurd (by decide) c_1)
  refine lv_iconst (v := (-1)) hx hb dX12_act_23 (by decide) ?_
  exact W.iret (v := (-1)) hx hb hr (fun t9 ht9 hW9 => ⟨rfl, ht9.trans hHe⟩) (fun _ h9 => absurd h9 List.not_mem_nil) dX12_act_24
theorem dX12_fewest_0 : decode cX12_fewest 0 = .ok (.aload_n 0, 1) := by decide +kernel
theorem dX12_fewest_1 : decode cX12_fewest 1 = .ok (.invokevirtual 397, 3) := by decide +kernel
theorem dX12_fewest_4 : decode cX12_fewest 4 = .ok (.ifCond .eq 13, 3) := by decide +kernel
theorem dX12_fewest_17 : decode cX12_fewest 17 = .ok (.iconst (-1), 1) := by decide +kernel
theorem dX12_fewest_18 : decode cX12_fewest 18 = .ok (.ireturn, 1) := by decide +kernel
set_option maxHeartbeats 4000000 in
set_option maxRecDepth 100000 in
theorem c_m_fewest (l : Launch) (D : va_G) (ad : Nat → Nat) (sz : Nat) (m0 : Nat) (mTa : Nat) (mSi : Nat) (mLe : Nat) (mCl : Nat) (mCs : Nat) (mRe : Nat) (mOp : Nat) (mSt : Nat) (mWo : Nat) (mSa : Nat) (mWa : Nat) (mFa : Nat) (mQu : Nat) (mIs : Nat) (mIm : Nat) (mIx : Nat) (mMa : Nat) (kmSa : ClassId) (a1 : Int32)  : Met l yX12_fewest (Cond.code yX12_fewest cX12_fewest 4 (some .int) :: TB) (RM 1 0 0) (va_Pc [.ref m0, .int a1] (PRE D ad [(m0, .inr (10, [.ref mTa, .int 0, .int 0, .ref mSi, .ref mLe, .ref mCl, .ref mCs, .ref mRe, .int 0, .int 0, .int 0, .int 0, .int 0, .int 0, .int 0, .ref mOp, .int 0, .ref mSt, .int 0, .ref mWo, .ref mSa, .int 0, .ref mWa, .int 0, .ref mFa, .ref mQu, .ref mIs, .int 0, .int 0, .long 0, .ref mIm, .ref mIx, .ref mMa])), (mSa, .inl (kmSa, 133, .inl sd0))] [(kmSa, .int)] sz)) (k2_QcV (.int (-1))) 0 0 (fun _ => False) := by
  refine MET (y := yX12_fewest) (cc := cX12_fewest) (maxL := 4) (ret := (some .int)) (d := 1) (mc := 0) (ms := 0) (D := D) (ad := ad) (ws := [(m0, .inr (10, [.ref mTa, .int 0, .int 0, .ref mSi, .ref mLe, .ref mCl, .ref mCs, .ref mRe, .int 0, .int 0, .int 0, .int 0, .int 0, .int 0, .int 0, .ref mOp, .int 0, .ref mSt, .int 0, .ref mWo, .ref mSa, .int 0, .ref mWa, .int 0, .ref mFa, .ref mQu, .ref mIs, .int 0, .int 0, .long 0, .ref mIm, .ref mIx, .ref mMa])), (mSa, .inl (kmSa, 133, .inl sd0))]) (tys := [(kmSa, .int)]) (sz := sz) (av := [.ref m0, .int a1]) (Qc := fun A => k2_QcV (.int (-1))) (fr := fun A => (fun _ => False)) (by decide) (Nat.le_of_ble_eq_true rfl) ?_
  intro p e s m below meth c ls A H hHe hx hb hr hml hown hts hlocks hnm hP hK hD hA hS hN hl
  have hown : s.vm.findClass "WrongHoleModel" = some m.cls := hown
  have hT : ∀ w ∈ TB, w.before ([.ref m0, .int a1] : List Value).toArray s = true := fun w h => hts w (List.mem_cons_of_mem _ h)
  have hl : lv_has ls 4 [(0, .ref m0), (1, .int a1)] := hl
  have hP : va_P D vwCl [(m0, .inr (10, [.ref mTa, .int 0, .int 0, .ref mSi, .ref mLe, .ref mCl, .ref mCs, .ref mRe, .int 0, .int 0, .int 0, .int 0, .int 0, .int 0, .int 0, .ref mOp, .int 0, .ref mSt, .int 0, .ref mWo, .ref mSa, .int 0, .ref mWa, .int 0, .ref mFa, .ref mQu, .ref mIs, .int 0, .int 0, .long 0, .ref mIm, .ref mIx, .ref mMa])), (mSa, .inl (kmSa, 133, .inl sd0))] H := hP
  refine lv_aload_n hx hb dX12_fewest_0 rfl (lv_at hl 0 rfl) ?_
  have hPc := hP.sub (ws' := [(m0, .inr (10, [.ref mTa, .int 0, .int 0, .ref mSi, .ref mLe, .ref mCl, .ref mCs, .ref mRe, .int 0, .int 0, .int 0, .int 0, .int 0, .int 0, .int 0, .ref mOp, .int 0, .ref mSt, .int 0, .ref mWo, .ref mSa, .int 0, .ref mWa, .int 0, .ref mFa, .ref mQu, .ref mIs, .int 0, .int 0, .long 0, .ref mIm, .ref mIx, .ref mMa])), (mSa, .inl (kmSa, 133, .inl sd0))]) [0, 1] rfl
  have hDc := hD.sub (ws' := [(m0, .inr (10, [.ref mTa, .int 0, .int 0, .ref mSi, .ref mLe, .ref mCl, .ref mCs, .ref mRe, .int 0, .int 0, .int 0, .int 0, .int 0, .int 0, .int 0, .ref mOp, .int 0, .ref mSt, .int 0, .ref mWo, .ref mSa, .int 0, .ref mWa, .int 0, .ref mFa, .ref mQu, .ref mIs, .int 0, .int 0, .long 0, .ref mIm, .ref mIx, .ref mMa])), (mSa, .inl (kmSa, 133, .inl sd0))]) [0, 1] (by decide) rfl
  have hKc := hK.sub (tys' := [(kmSa, .int)]) [0] rfl
  refine cl_V (W.runV (As := []) (rest := []) ⟨hx, hb, hml, hown, hts⟩ (c_isLift l D ad H.size m0 mTa mSi mLe mCl mCs mRe mOp mSt mWo mSa mWa mFa mQu mIs mIm mIx mMa kmSa) ⟨callB_of 0 hts (gd_C qq_7_46) rfl rfl rfl (hT _ qq_1_9) (hT _ qq_7_43) (by decide +kernel) (rm_R rfl rfl), (hT _ qq_7_45), (hT _ qs_5_2)⟩ (pr_V hPc hKc hDc hN (ci := 10) (q0 := 0) rfl rfl) rfl rfl hl.1 rfl (lv_room (Nat.le_of_ble_eq_true rfl)) dX12_fewest_1 ⟨Nat.le_of_ble_eq_true rfl, Nat.le_of_ble_eq_true rfl⟩) ?_
  refine lv_if_eq (tgt := 17) hx hb dX12_fewest_4 (by decide) (fun _ => ?_) (fun c_1 => absurd (by decide) c_1)
  refine lv_iconst (v := (-1)) hx hb dX12_fewest_17 (by decide) ?_
  exact W.iret (v := (-1)) hx hb hr (fun t9 ht9 hW9 => ⟨rfl, ht9.trans hHe⟩) (fun _ h9 => absurd h9 List.not_mem_nil) dX12_fewest_18
theorem dX12_soonest_0 : decode cX12_soonest 0 = .ok (.aload_n 0, 1) := by decide +kernel
theorem dX12_soonest_1 : decode cX12_soonest 1 = .ok (.invokevirtual 397, 3) := by decide +kernel
theorem dX12_soonest_4 : decode cX12_soonest 4 = .ok (.ifCond .ne 5, 3) := by decide +kernel
theorem dX12_soonest_7 : decode cX12_soonest 7 = .ok (.iconst (-1), 1) := by decide +kernel
theorem dX12_soonest_8 : decode cX12_soonest 8 = .ok (.ireturn, 1) := by decide +kernel
set_option maxHeartbeats 4000000 in
set_option maxRecDepth 100000 in
theorem c_m_soonest (l : Launch) (D : va_G) (ad : Nat → Nat) (sz : Nat) (m0 : Nat) (mTa : Nat) (mSi : Nat) (mLe : Nat) (mCl : Nat) (mCs : Nat) (mRe : Nat) (mOp : Nat) (mSt : Nat) (mWo : Nat) (mSa : Nat) (mWa : Nat) (mFa : Nat) (mQu : Nat) (mIs : Nat) (mIm : Nat) (mIx : Nat) (mMa : Nat) (kmSa : ClassId)  : Met l yX12_soonest (Cond.code yX12_soonest cX12_soonest 2 (some .int) :: TB) (RM 1 0 0) (va_Pc [.ref m0] (PRE D ad [(m0, .inr (10, [.ref mTa, .int 0, .int 0, .ref mSi, .ref mLe, .ref mCl, .ref mCs, .ref mRe, .int 0, .int 0, .int 0, .int 0, .int 0, .int 0, .int 0, .ref mOp, .int 0, .ref mSt, .int 0, .ref mWo, .ref mSa, .int 0, .ref mWa, .int 0, .ref mFa, .ref mQu, .ref mIs, .int 0, .int 0, .long 0, .ref mIm, .ref mIx, .ref mMa])), (mSa, .inl (kmSa, 133, .inl sd0))] [(kmSa, .int)] sz)) (k2_QcV (.int (-1))) 0 0 (fun _ => False) := by
  refine MET (y := yX12_soonest) (cc := cX12_soonest) (maxL := 2) (ret := (some .int)) (d := 1) (mc := 0) (ms := 0) (D := D) (ad := ad) (ws := [(m0, .inr (10, [.ref mTa, .int 0, .int 0, .ref mSi, .ref mLe, .ref mCl, .ref mCs, .ref mRe, .int 0, .int 0, .int 0, .int 0, .int 0, .int 0, .int 0, .ref mOp, .int 0, .ref mSt, .int 0, .ref mWo, .ref mSa, .int 0, .ref mWa, .int 0, .ref mFa, .ref mQu, .ref mIs, .int 0, .int 0, .long 0, .ref mIm, .ref mIx, .ref mMa])), (mSa, .inl (kmSa, 133, .inl sd0))]) (tys := [(kmSa, .int)]) (sz := sz) (av := [.ref m0]) (Qc := fun A => k2_QcV (.int (-1))) (fr := fun A => (fun _ => False)) (by decide) (Nat.le_of_ble_eq_true rfl) ?_
  intro p e s m below meth c ls A H hHe hx hb hr hml hown hts hlocks hnm hP hK hD hA hS hN hl
  have hown : s.vm.findClass "WrongHoleModel" = some m.cls := hown
  have hT : ∀ w ∈ TB, w.before ([.ref m0] : List Value).toArray s = true := fun w h => hts w (List.mem_cons_of_mem _ h)
  have hl : lv_has ls 2 [(0, .ref m0)] := hl
  have hP : va_P D vwCl [(m0, .inr (10, [.ref mTa, .int 0, .int 0, .ref mSi, .ref mLe, .ref mCl, .ref mCs, .ref mRe, .int 0, .int 0, .int 0, .int 0, .int 0, .int 0, .int 0, .ref mOp, .int 0, .ref mSt, .int 0, .ref mWo, .ref mSa, .int 0, .ref mWa, .int 0, .ref mFa, .ref mQu, .ref mIs, .int 0, .int 0, .long 0, .ref mIm, .ref mIx, .ref mMa])), (mSa, .inl (kmSa, 133, .inl sd0))] H := hP
  refine lv_aload_n hx hb dX12_soonest_0 rfl (lv_at hl 0 rfl) ?_
  have hPc := hP.sub (ws' := [(m0, .inr (10, [.ref mTa, .int 0, .int 0, .ref mSi, .ref mLe, .ref mCl, .ref mCs, .ref mRe, .int 0, .int 0, .int 0, .int 0, .int 0, .int 0, .int 0, .ref mOp, .int 0, .ref mSt, .int 0, .ref mWo, .ref mSa, .int 0, .ref mWa, .int 0, .ref mFa, .ref mQu, .ref mIs, .int 0, .int 0, .long 0, .ref mIm, .ref mIx, .ref mMa])), (mSa, .inl (kmSa, 133, .inl sd0))]) [0, 1] rfl
  have hDc := hD.sub (ws' := [(m0, .inr (10, [.ref mTa, .int 0, .int 0, .ref mSi, .ref mLe, .ref mCl, .ref mCs, .ref mRe, .int 0, .int 0, .int 0, .int 0, .int 0, .int 0, .int 0, .ref mOp, .int 0, .ref mSt, .int 0, .ref mWo, .ref mSa, .int 0, .ref mWa, .int 0, .ref mFa, .ref mQu, .ref mIs, .int 0, .int 0, .long 0, .ref mIm, .ref mIx, .ref mMa])), (mSa, .inl (kmSa, 133, .inl sd0))]) [0, 1] (by decide) rfl
  have hKc := hK.sub (tys' := [(kmSa, .int)]) [0] rfl
  refine cl_V (W.runV (As := []) (rest := []) ⟨hx, hb, hml, hown, hts⟩ (c_isLift l D ad H.size m0 mTa mSi mLe mCl mCs mRe mOp mSt mWo mSa mWa mFa mQu mIs mIm mIx mMa kmSa) ⟨callB_of 0 hts (gd_C qq_7_46) rfl rfl rfl (hT _ qq_1_9) (hT _ qq_7_43) (by decide +kernel) (rm_R rfl rfl), (hT _ qq_7_45), (hT _ qs_5_2)⟩ (pr_V hPc hKc hDc hN (ci := 10) (q0 := 0) rfl rfl) rfl rfl hl.1 rfl (lv_room (Nat.le_of_ble_eq_true rfl)) dX12_soonest_1 ⟨Nat.le_of_ble_eq_true rfl, Nat.le_of_ble_eq_true rfl⟩) ?_
  refine lv_if_ne (tgt := 9) hx hb dX12_soonest_4 (by decide) (fun c_1 => absurd (by decide) c_1) (fun _ => ?_)
  refine lv_iconst (v := (-1)) hx hb dX12_soonest_7 (by decide) ?_
  exact W.iret (v := (-1)) hx hb hr (fun t9 ht9 hW9 => ⟨rfl, ht9.trans hHe⟩) (fun _ h9 => absurd h9 List.not_mem_nil) dX12_soonest_8
theorem dX12_step_0 : decode cX12_step 0 = .ok (.aload_n 0, 1) := by decide +kernel
theorem dX12_step_1 : decode cX12_step 1 = .ok (.invokevirtual 397, 3) := by decide +kernel
theorem dX12_step_4 : decode cX12_step 4 = .ok (.ifCond .eq 19, 3) := by decide +kernel
theorem dX12_step_23 : decode cX12_step 23 = .ok (.iconst (-1), 1) := by decide +kernel
theorem dX12_step_24 : decode cX12_step 24 = .ok (.ireturn, 1) := by decide +kernel
set_option maxHeartbeats 4000000 in
set_option maxRecDepth 100000 in
theorem c_m_step (l : Launch) (D : va_G) (ad : Nat → Nat) (sz : Nat) (m0 : Nat) (mTa : Nat) (mSi : Nat) (mLe : Nat) (mCl : Nat) (mCs : Nat) (mRe : Nat) (mOp : Nat) (mSt : Nat) (mWo : Nat) (mSa : Nat) (mWa : Nat) (mFa : Nat) (mQu : Nat) (mIs : Nat) (mIm : Nat) (mIx : Nat) (mMa : Nat) (kmSa : ClassId) (a1 : Int32) (a2 : Int32)  : Met l yX12_step (Cond.code yX12_step cX12_step 6 (some .int) :: TB) (RM 1 0 0) (va_Pc [.ref m0, .int a1, .int a2] (PRE D ad [(m0, .inr (10, [.ref mTa, .int 0, .int 0, .ref mSi, .ref mLe, .ref mCl, .ref mCs, .ref mRe, .int 0, .int 0, .int 0, .int 0, .int 0, .int 0, .int 0, .ref mOp, .int 0, .ref mSt, .int 0, .ref mWo, .ref mSa, .int 0, .ref mWa, .int 0, .ref mFa, .ref mQu, .ref mIs, .int 0, .int 0, .long 0, .ref mIm, .ref mIx, .ref mMa])), (mSa, .inl (kmSa, 133, .inl sd0))] [(kmSa, .int)] sz)) (k2_QcV (.int (-1))) 0 0 (fun _ => False) := by
  refine MET (y := yX12_step) (cc := cX12_step) (maxL := 6) (ret := (some .int)) (d := 1) (mc := 0) (ms := 0) (D := D) (ad := ad) (ws := [(m0, .inr (10, [.ref mTa, .int 0, .int 0, .ref mSi, .ref mLe, .ref mCl, .ref mCs, .ref mRe, .int 0, .int 0, .int 0, .int 0, .int 0, .int 0, .int 0, .ref mOp, .int 0, .ref mSt, .int 0, .ref mWo, .ref mSa, .int 0, .ref mWa, .int 0, .ref mFa, .ref mQu, .ref mIs, .int 0, .int 0, .long 0, .ref mIm, .ref mIx, .ref mMa])), (mSa, .inl (kmSa, 133, .inl sd0))]) (tys := [(kmSa, .int)]) (sz := sz) (av := [.ref m0, .int a1, .int a2]) (Qc := fun A => k2_QcV (.int (-1))) (fr := fun A => (fun _ => False)) (by decide) (Nat.le_of_ble_eq_true rfl) ?_
  intro p e s m below meth c ls A H hHe hx hb hr hml hown hts hlocks hnm hP hK hD hA hS hN hl
  have hown : s.vm.findClass "WrongHoleModel" = some m.cls := hown
  have hT : ∀ w ∈ TB, w.before ([.ref m0, .int a1, .int a2] : List Value).toArray s = true := fun w h => hts w (List.mem_cons_of_mem _ h)
  have hl : lv_has ls 6 [(0, .ref m0), (1, .int a1), (2, .int a2)] := hl
  have hP : va_P D vwCl [(m0, .inr (10, [.ref mTa, .int 0, .int 0, .ref mSi, .ref mLe, .ref mCl, .ref mCs, .ref mRe, .int 0, .int 0, .int 0, .int 0, .int 0, .int 0, .int 0, .ref mOp, .int 0, .ref mSt, .int 0, .ref mWo, .ref mSa, .int 0, .ref mWa, .int 0, .ref mFa, .ref mQu, .ref mIs, .int 0, .int 0, .long 0, .ref mIm, .ref mIx, .ref mMa])), (mSa, .inl (kmSa, 133, .inl sd0))] H := hP
  refine lv_aload_n hx hb dX12_step_0 rfl (lv_at hl 0 rfl) ?_
  have hPc := hP.sub (ws' := [(m0, .inr (10, [.ref mTa, .int 0, .int 0, .ref mSi, .ref mLe, .ref mCl, .ref mCs, .ref mRe, .int 0, .int 0, .int 0, .int 0, .int 0, .int 0, .int 0, .ref mOp, .int 0, .ref mSt, .int 0, .ref mWo, .ref mSa, .int 0, .ref mWa, .int 0, .ref mFa, .ref mQu, .ref mIs, .int 0, .int 0, .long 0, .ref mIm, .ref mIx, .ref mMa])), (mSa, .inl (kmSa, 133, .inl sd0))]) [0, 1] rfl
  have hDc := hD.sub (ws' := [(m0, .inr (10, [.ref mTa, .int 0, .int 0, .ref mSi, .ref mLe, .ref mCl, .ref mCs, .ref mRe, .int 0, .int 0, .int 0, .int 0, .int 0, .int 0, .int 0, .ref mOp, .int 0, .ref mSt, .int 0, .ref mWo, .ref mSa, .int 0, .ref mWa, .int 0, .ref mFa, .ref mQu, .ref mIs, .int 0, .int 0, .long 0, .ref mIm, .ref mIx, .ref mMa])), (mSa, .inl (kmSa, 133, .inl sd0))]) [0, 1] (by decide) rfl
  have hKc := hK.sub (tys' := [(kmSa, .int)]) [0] rfl
  refine cl_V (W.runV (As := []) (rest := []) ⟨hx, hb, hml, hown, hts⟩ (c_isLift l D ad H.size m0 mTa mSi mLe mCl mCs mRe mOp mSt mWo mSa mWa mFa mQu mIs mIm mIx mMa kmSa) ⟨callB_of 0 hts (gd_C qq_7_46) rfl rfl rfl (hT _ qq_1_9) (hT _ qq_7_43) (by decide +kernel) (rm_R rfl rfl), (hT _ qq_7_45), (hT _ qs_5_2)⟩ (pr_V hPc hKc hDc hN (ci := 10) (q0 := 0) rfl rfl) rfl rfl hl.1 rfl (lv_room (Nat.le_of_ble_eq_true rfl)) dX12_step_1 ⟨Nat.le_of_ble_eq_true rfl, Nat.le_of_ble_eq_true rfl⟩) ?_
  refine lv_if_eq (tgt := 23) hx hb dX12_step_4 (by decide) (fun _ => ?_) (fun c_1 => absurd (by decide) c_1)
  refine lv_iconst (v := (-1)) hx hb dX12_step_23 (by decide) ?_
  exact W.iret (v := (-1)) hx hb hr (fun t9 ht9 hW9 => ⟨rfl, ht9.trans hHe⟩) (fun _ h9 => absurd h9 List.not_mem_nil) dX12_step_24
theorem dX12_floor_0 : decode cX12_floor 0 = .ok (.aload_n 0, 1) := by decide +kernel
theorem dX12_floor_1 : decode cX12_floor 1 = .ok (.invokevirtual 397, 3) := by decide +kernel
theorem dX12_floor_4 : decode cX12_floor 4 = .ok (.ifCond .eq 27, 3) := by decide +kernel
theorem dX12_floor_31 : decode cX12_floor 31 = .ok (.iconst (-1), 1) := by decide +kernel
theorem dX12_floor_32 : decode cX12_floor 32 = .ok (.ireturn, 1) := by decide +kernel
set_option maxHeartbeats 4000000 in
set_option maxRecDepth 100000 in
theorem c_m_floor (l : Launch) (D : va_G) (ad : Nat → Nat) (sz : Nat) (m0 : Nat) (mTa : Nat) (mSi : Nat) (mLe : Nat) (mCl : Nat) (mCs : Nat) (mRe : Nat) (mOp : Nat) (mSt : Nat) (mWo : Nat) (mSa : Nat) (mWa : Nat) (mFa : Nat) (mQu : Nat) (mIs : Nat) (mIm : Nat) (mIx : Nat) (mMa : Nat) (kmSa : ClassId) (a1 : Int32) (a2 : Int32)  : Met l yX12_floor (Cond.code yX12_floor cX12_floor 10 (some .int) :: TB) (RM 1 0 0) (va_Pc [.ref m0, .int a1, .int a2] (PRE D ad [(m0, .inr (10, [.ref mTa, .int 0, .int 0, .ref mSi, .ref mLe, .ref mCl, .ref mCs, .ref mRe, .int 0, .int 0, .int 0, .int 0, .int 0, .int 0, .int 0, .ref mOp, .int 0, .ref mSt, .int 0, .ref mWo, .ref mSa, .int 0, .ref mWa, .int 0, .ref mFa, .ref mQu, .ref mIs, .int 0, .int 0, .long 0, .ref mIm, .ref mIx, .ref mMa])), (mSa, .inl (kmSa, 133, .inl sd0))] [(kmSa, .int)] sz)) (k2_QcV (.int (-1))) 0 0 (fun _ => False) := by
  refine MET (y := yX12_floor) (cc := cX12_floor) (maxL := 10) (ret := (some .int)) (d := 1) (mc := 0) (ms := 0) (D := D) (ad := ad) (ws := [(m0, .inr (10, [.ref mTa, .int 0, .int 0, .ref mSi, .ref mLe, .ref mCl, .ref mCs, .ref mRe, .int 0, .int 0, .int 0, .int 0, .int 0, .int 0, .int 0, .ref mOp, .int 0, .ref mSt, .int 0, .ref mWo, .ref mSa, .int 0, .ref mWa, .int 0, .ref mFa, .ref mQu, .ref mIs, .int 0, .int 0, .long 0, .ref mIm, .ref mIx, .ref mMa])), (mSa, .inl (kmSa, 133, .inl sd0))]) (tys := [(kmSa, .int)]) (sz := sz) (av := [.ref m0, .int a1, .int a2]) (Qc := fun A => k2_QcV (.int (-1))) (fr := fun A => (fun _ => False)) (by decide) (Nat.le_of_ble_eq_true rfl) ?_
  intro p e s m below meth c ls A H hHe hx hb hr hml hown hts hlocks hnm hP hK hD hA hS hN hl
  have hown : s.vm.findClass "WrongHoleModel" = some m.cls := hown
  have hT : ∀ w ∈ TB, w.before ([.ref m0, .int a1, .int a2] : List Value).toArray s = true := fun w h => hts w (List.mem_cons_of_mem _ h)
  have hl : lv_has ls 10 [(0, .ref m0), (1, .int a1), (2, .int a2)] := hl
  have hP : va_P D vwCl [(m0, .inr (10, [.ref mTa, .int 0, .int 0, .ref mSi, .ref mLe, .ref mCl, .ref mCs, .ref mRe, .int 0, .int 0, .int 0, .int 0, .int 0, .int 0, .int 0, .ref mOp, .int 0, .ref mSt, .int 0, .ref mWo, .ref mSa, .int 0, .ref mWa, .int 0, .ref mFa, .ref mQu, .ref mIs, .int 0, .int 0, .long 0, .ref mIm, .ref mIx, .ref mMa])), (mSa, .inl (kmSa, 133, .inl sd0))] H := hP
  refine lv_aload_n hx hb dX12_floor_0 rfl (lv_at hl 0 rfl) ?_
  have hPc := hP.sub (ws' := [(m0, .inr (10, [.ref mTa, .int 0, .int 0, .ref mSi, .ref mLe, .ref mCl, .ref mCs, .ref mRe, .int 0, .int 0, .int 0, .int 0, .int 0, .int 0, .int 0, .ref mOp, .int 0, .ref mSt, .int 0, .ref mWo, .ref mSa, .int 0, .ref mWa, .int 0, .ref mFa, .ref mQu, .ref mIs, .int 0, .int 0, .long 0, .ref mIm, .ref mIx, .ref mMa])), (mSa, .inl (kmSa, 133, .inl sd0))]) [0, 1] rfl
  have hDc := hD.sub (ws' := [(m0, .inr (10, [.ref mTa, .int 0, .int 0, .ref mSi, .ref mLe, .ref mCl, .ref mCs, .ref mRe, .int 0, .int 0, .int 0, .int 0, .int 0, .int 0, .int 0, .ref mOp, .int 0, .ref mSt, .int 0, .ref mWo, .ref mSa, .int 0, .ref mWa, .int 0, .ref mFa, .ref mQu, .ref mIs, .int 0, .int 0, .long 0, .ref mIm, .ref mIx, .ref mMa])), (mSa, .inl (kmSa, 133, .inl sd0))]) [0, 1] (by decide) rfl
  have hKc := hK.sub (tys' := [(kmSa, .int)]) [0] rfl
  refine cl_V (W.runV (As := []) (rest := []) ⟨hx, hb, hml, hown, hts⟩ (c_isLift l D ad H.size m0 mTa mSi mLe mCl mCs mRe mOp mSt mWo mSa mWa mFa mQu mIs mIm mIx mMa kmSa) ⟨callB_of 0 hts (gd_C qq_7_46) rfl rfl rfl (hT _ qq_1_9) (hT _ qq_7_43) (by decide +kernel) (rm_R rfl rfl), (hT _ qq_7_45), (hT _ qs_5_2)⟩ (pr_V hPc hKc hDc hN (ci := 10) (q0 := 0) rfl rfl) rfl rfl hl.1 rfl (lv_room (Nat.le_of_ble_eq_true rfl)) dX12_floor_1 ⟨Nat.le_of_ble_eq_true rfl, Nat.le_of_ble_eq_true rfl⟩) ?_
  refine lv_if_eq (tgt := 31) hx hb dX12_floor_4 (by decide) (fun _ => ?_) (fun c_1 => absurd (by decide) c_1)
  refine lv_iconst (v := (-1)) hx hb dX12_floor_31 (by decide) ?_
  exact W.iret (v := (-1)) hx hb hr (fun t9 ht9 hW9 => ⟨rfl, ht9.trans hHe⟩) (fun _ h9 => absurd h9 List.not_mem_nil) dX12_floor_32
theorem dX12_goes_0 : decode cX12_goes 0 = .ok (.aload_n 0, 1) := by decide +kernel
theorem dX12_goes_1 : decode cX12_goes 1 = .ok (.invokevirtual 397, 3) := by decide +kernel
theorem dX12_goes_4 : decode cX12_goes 4 = .ok (.ifCond .eq 15, 3) := by decide +kernel
theorem dX12_goes_19 : decode cX12_goes 19 = .ok (.iconst (-1), 1) := by decide +kernel
theorem dX12_goes_20 : decode cX12_goes 20 = .ok (.ireturn, 1) := by decide +kernel
set_option maxHeartbeats 4000000 in
set_option maxRecDepth 100000 in
theorem c_m_goes (l : Launch) (D : va_G) (ad : Nat → Nat) (sz : Nat) (m0 : Nat) (mTa : Nat) (mSi : Nat) (mLe : Nat) (mCl : Nat) (mCs : Nat) (mRe : Nat) (mOp : Nat) (mSt : Nat) (mWo : Nat) (mSa : Nat) (mWa : Nat) (mFa : Nat) (mQu : Nat) (mIs : Nat) (mIm : Nat) (mIx : Nat) (mMa : Nat) (kmSa : ClassId) (a1 : Int32)  : Met l yX12_goes (Cond.code yX12_goes cX12_goes 7 (some .int) :: TB) (RM 1 0 0) (va_Pc [.ref m0, .int a1] (PRE D ad [(m0, .inr (10, [.ref mTa, .int 0, .int 0, .ref mSi, .ref mLe, .ref mCl, .ref mCs, .ref mRe, .int 0, .int 0, .int 0, .int 0, .int 0, .int 0, .int 0, .ref mOp, .int 0, .ref mSt, .int 0, .ref mWo, .ref mSa, .int 0, .ref mWa, .int 0, .ref mFa, .ref mQu, .ref mIs, .int 0, .int 0, .long 0, .ref mIm, .ref mIx, .ref mMa])), (mSa, .inl (kmSa, 133, .inl sd0))] [(kmSa, .int)] sz)) (k2_QcV (.int (-1))) 0 0 (fun _ => False) := by
  refine MET (y := yX12_goes) (cc := cX12_goes) (maxL := 7) (ret := (some .int)) (d := 1) (mc := 0) (ms := 0) (D := D) (ad := ad) (ws := [(m0, .inr (10, [.ref mTa, .int 0, .int 0, .ref mSi, .ref mLe, .ref mCl, .ref mCs, .ref mRe, .int 0, .int 0, .int 0, .int 0, .int 0, .int 0, .int 0, .ref mOp, .int 0, .ref mSt, .int 0, .ref mWo, .ref mSa, .int 0, .ref mWa, .int 0, .ref mFa, .ref mQu, .ref mIs, .int 0, .int 0, .long 0, .ref mIm, .ref mIx, .ref mMa])), (mSa, .inl (kmSa, 133, .inl sd0))]) (tys := [(kmSa, .int)]) (sz := sz) (av := [.ref m0, .int a1]) (Qc := fun A => k2_QcV (.int (-1))) (fr := fun A => (fun _ => False)) (by decide) (Nat.le_of_ble_eq_true rfl) ?_
  intro p e s m below meth c ls A H hHe hx hb hr hml hown hts hlocks hnm hP hK hD hA hS hN hl
  have hown : s.vm.findClass "WrongHoleModel" = some m.cls := hown
  have hT : ∀ w ∈ TB, w.before ([.ref m0, .int a1] : List Value).toArray s = true := fun w h => hts w (List.mem_cons_of_mem _ h)
  have hl : lv_has ls 7 [(0, .ref m0), (1, .int a1)] := hl
  have hP : va_P D vwCl [(m0, .inr (10, [.ref mTa, .int 0, .int 0, .ref mSi, .ref mLe, .ref mCl, .ref mCs, .ref mRe, .int 0, .int 0, .int 0, .int 0, .int 0, .int 0, .int 0, .ref mOp, .int 0, .ref mSt, .int 0, .ref mWo, .ref mSa, .int 0, .ref mWa, .int 0, .ref mFa, .ref mQu, .ref mIs, .int 0, .int 0, .long 0, .ref mIm, .ref mIx, .ref mMa])), (mSa, .inl (kmSa, 133, .inl sd0))] H := hP
  refine lv_aload_n hx hb dX12_goes_0 rfl (lv_at hl 0 rfl) ?_
  have hPc := hP.sub (ws' := [(m0, .inr (10, [.ref mTa, .int 0, .int 0, .ref mSi, .ref mLe, .ref mCl, .ref mCs, .ref mRe, .int 0, .int 0, .int 0, .int 0, .int 0, .int 0, .int 0, .ref mOp, .int 0, .ref mSt, .int 0, .ref mWo, .ref mSa, .int 0, .ref mWa, .int 0, .ref mFa, .ref mQu, .ref mIs, .int 0, .int 0, .long 0, .ref mIm, .ref mIx, .ref mMa])), (mSa, .inl (kmSa, 133, .inl sd0))]) [0, 1] rfl
  have hDc := hD.sub (ws' := [(m0, .inr (10, [.ref mTa, .int 0, .int 0, .ref mSi, .ref mLe, .ref mCl, .ref mCs, .ref mRe, .int 0, .int 0, .int 0, .int 0, .int 0, .int 0, .int 0, .ref mOp, .int 0, .ref mSt, .int 0, .ref mWo, .ref mSa, .int 0, .ref mWa, .int 0, .ref mFa, .ref mQu, .ref mIs, .int 0, .int 0, .long 0, .ref mIm, .ref mIx, .ref mMa])), (mSa, .inl (kmSa, 133, .inl sd0))]) [0, 1] (by decide) rfl
  have hKc := hK.sub (tys' := [(kmSa, .int)]) [0] rfl
  refine cl_V (W.runV (As := []) (rest := []) ⟨hx, hb, hml, hown, hts⟩ (c_isLift l D ad H.size m0 mTa mSi mLe mCl mCs mRe mOp mSt mWo mSa mWa mFa mQu mIs mIm mIx mMa kmSa) ⟨callB_of 0 hts (gd_C qq_7_46) rfl rfl rfl (hT _ qq_1_9) (hT _ qq_7_43) (by decide +kernel) (rm_R rfl rfl), (hT _ qq_7_45), (hT _ qs_5_2)⟩ (pr_V hPc hKc hDc hN (ci := 10) (q0 := 0) rfl rfl) rfl rfl hl.1 rfl (lv_room (Nat.le_of_ble_eq_true rfl)) dX12_goes_1 ⟨Nat.le_of_ble_eq_true rfl, Nat.le_of_ble_eq_true rfl⟩) ?_
  refine lv_if_eq (tgt := 19) hx hb dX12_goes_4 (by decide) (fun _ => ?_) (fun c_1 => absurd (by decide) c_1)
  refine lv_iconst (v := (-1)) hx hb dX12_goes_19 (by decide) ?_
  exact W.iret (v := (-1)) hx hb hr (fun t9 ht9 hW9 => ⟨rfl, ht9.trans hHe⟩) (fun _ h9 => absurd h9 List.not_mem_nil) dX12_goes_20
theorem dX12_child_0 : decode cX12_child 0 = .ok (.aload_n 0, 1) := by decide +kernel
theorem dX12_child_1 : decode cX12_child 1 = .ok (.invokevirtual 397, 3) := by decide +kernel
theorem dX12_child_4 : decode cX12_child 4 = .ok (.ifCond .eq 36, 3) := by decide +kernel
theorem dX12_child_40 : decode cX12_child 40 = .ok (.iconst (-1), 1) := by decide +kernel
theorem dX12_child_41 : decode cX12_child 41 = .ok (.ireturn, 1) := by decide +kernel
set_option maxHeartbeats 4000000 in
set_option maxRecDepth 100000 in
theorem c_m_child (l : Launch) (D : va_G) (ad : Nat → Nat) (sz : Nat) (m0 : Nat) (mTa : Nat) (mSi : Nat) (mLe : Nat) (mCl : Nat) (mCs : Nat) (mRe : Nat) (mOp : Nat) (mSt : Nat) (mWo : Nat) (mSa : Nat) (mWa : Nat) (mFa : Nat) (mQu : Nat) (mIs : Nat) (mIm : Nat) (mIx : Nat) (mMa : Nat) (kmSa : ClassId) (a1 : Int32) (a2 : Int32) (a3 : Int32)  : Met l yX12_child (Cond.code yX12_child cX12_child 7 (some .int) :: TB) (RM 1 0 0) (va_Pc [.ref m0, .int a1, .int a2, .int a3] (PRE D ad [(m0, .inr (10, [.ref mTa, .int 0, .int 0, .ref mSi, .ref mLe, .ref mCl, .ref mCs, .ref mRe, .int 0, .int 0, .int 0, .int 0, .int 0, .int 0, .int 0, .ref mOp, .int 0, .ref mSt, .int 0, .ref mWo, .ref mSa, .int 0, .ref mWa, .int 0, .ref mFa, .ref mQu, .ref mIs, .int 0, .int 0, .long 0, .ref mIm, .ref mIx, .ref mMa])), (mSa, .inl (kmSa, 133, .inl sd0))] [(kmSa, .int)] sz)) (k2_QcV (.int (-1))) 0 0 (fun _ => False) := by
  refine MET (y := yX12_child) (cc := cX12_child) (maxL := 7) (ret := (some .int)) (d := 1) (mc := 0) (ms := 0) (D := D) (ad := ad) (ws := [(m0, .inr (10, [.ref mTa, .int 0, .int 0, .ref mSi, .ref mLe, .ref mCl, .ref mCs, .ref mRe, .int 0, .int 0, .int 0, .int 0, .int 0, .int 0, .int 0, .ref mOp, .int 0, .ref mSt, .int 0, .ref mWo, .ref mSa, .int 0, .ref mWa, .int 0, .ref mFa, .ref mQu, .ref mIs, .int 0, .int 0, .long 0, .ref mIm, .ref mIx, .ref mMa])), (mSa, .inl (kmSa, 133, .inl sd0))]) (tys := [(kmSa, .int)]) (sz := sz) (av := [.ref m0, .int a1, .int a2, .int a3]) (Qc := fun A => k2_QcV (.int (-1))) (fr := fun A => (fun _ => False)) (by decide) (Nat.le_of_ble_eq_true rfl) ?_
  intro p e s m below meth c ls A H hHe hx hb hr hml hown hts hlocks hnm hP hK hD hA hS hN hl
  have hown : s.vm.findClass "WrongHoleModel" = some m.cls := hown
  have hT : ∀ w ∈ TB, w.before ([.ref m0, .int a1, .int a2, .int a3] : List Value).toArray s = true := fun w h => hts w (List.mem_cons_of_mem _ h)
  have hl : lv_has ls 7 [(0, .ref m0), (1, .int a1), (2, .int a2), (3, .int a3)] := hl
  have hP : va_P D vwCl [(m0, .inr (10, [.ref mTa, .int 0, .int 0, .ref mSi, .ref mLe, .ref mCl, .ref mCs, .ref mRe, .int 0, .int 0, .int 0, .int 0, .int 0, .int 0, .int 0, .ref mOp, .int 0, .ref mSt, .int 0, .ref mWo, .ref mSa, .int 0, .ref mWa, .int 0, .ref mFa, .ref mQu, .ref mIs, .int 0, .int 0, .long 0, .ref mIm, .ref mIx, .ref mMa])), (mSa, .inl (kmSa, 133, .inl sd0))] H := hP
  refine lv_aload_n hx hb dX12_child_0 rfl (lv_at hl 0 rfl) ?_
  have hPc := hP.sub (ws' := [(m0, .inr (10, [.ref mTa, .int 0, .int 0, .ref mSi, .ref mLe, .ref mCl, .ref mCs, .ref mRe, .int 0, .int 0, .int 0, .int 0, .int 0, .int 0, .int 0, .ref mOp, .int 0, .ref mSt, .int 0, .ref mWo, .ref mSa, .int 0, .ref mWa, .int 0, .ref mFa, .ref mQu, .ref mIs, .int 0, .int 0, .long 0, .ref mIm, .ref mIx, .ref mMa])), (mSa, .inl (kmSa, 133, .inl sd0))]) [0, 1] rfl
  have hDc := hD.sub (ws' := [(m0, .inr (10, [.ref mTa, .int 0, .int 0, .ref mSi, .ref mLe, .ref mCl, .ref mCs, .ref mRe, .int 0, .int 0, .int 0, .int 0, .int 0, .int 0, .int 0, .ref mOp, .int 0, .ref mSt, .int 0, .ref mWo, .ref mSa, .int 0, .ref mWa, .int 0, .ref mFa, .ref mQu, .ref mIs, .int 0, .int 0, .long 0, .ref mIm, .ref mIx, .ref mMa])), (mSa, .inl (kmSa, 133, .inl sd0))]) [0, 1] (by decide) rfl
  have hKc := hK.sub (tys' := [(kmSa, .int)]) [0] rfl
  refine cl_V (W.runV (As := []) (rest := []) ⟨hx, hb, hml, hown, hts⟩ (c_isLift l D ad H.size m0 mTa mSi mLe mCl mCs mRe mOp mSt mWo mSa mWa mFa mQu mIs mIm mIx mMa kmSa) ⟨callB_of 0 hts (gd_C qq_7_46) rfl rfl rfl (hT _ qq_1_9) (hT _ qq_7_43) (by decide +kernel) (rm_R rfl rfl), (hT _ qq_7_45), (hT _ qs_5_2)⟩ (pr_V hPc hKc hDc hN (ci := 10) (q0 := 0) rfl rfl) rfl rfl hl.1 rfl (lv_room (Nat.le_of_ble_eq_true rfl)) dX12_child_1 ⟨Nat.le_of_ble_eq_true rfl, Nat.le_of_ble_eq_true rfl⟩) ?_
  refine lv_if_eq (tgt := 40) hx hb dX12_child_4 (by decide) (fun _ => ?_) (fun c_1 => absurd (by decide) c_1)
  refine lv_iconst (v := (-1)) hx hb dX12_child_40 (by decide) ?_
  exact W.iret (v := (-1)) hx hb hr (fun t9 ht9 hW9 => ⟨rfl, ht9.trans hHe⟩) (fun _ h9 => absurd h9 List.not_mem_nil) dX12_child_41
theorem dX12_spare_0 : decode cX12_spare 0 = .ok (.aload_n 0, 1) := by decide +kernel
theorem dX12_spare_1 : decode cX12_spare 1 = .ok (.iload_n 1, 1) := by decide +kernel
theorem dX12_spare_2 : decode cX12_spare 2 = .ok (.invokevirtual 365, 3) := by decide +kernel
theorem dX12_spare_5 : decode cX12_spare 5 = .ok (.ifCond .eq 22, 3) := by decide +kernel
theorem dX12_spare_27 : decode cX12_spare 27 = .ok (.iconst (-1), 1) := by decide +kernel
theorem dX12_spare_28 : decode cX12_spare 28 = .ok (.ireturn, 1) := by decide +kernel
set_option maxHeartbeats 4000000 in
set_option maxRecDepth 100000 in
theorem c_m_spare (l : Launch) (D : va_G) (ad : Nat → Nat) (sz : Nat) (m0 : Nat) (mTa : Nat) (mSi : Nat) (mLe : Nat) (mCl : Nat) (mCs : Nat) (mRe : Nat) (mOp : Nat) (mSt : Nat) (mWo : Nat) (mSa : Nat) (mWa : Nat) (mFa : Nat) (mQu : Nat) (mIs : Nat) (mIm : Nat) (mIx : Nat) (mMa : Nat) (kmSa : ClassId) (a1 : Int32) (a2 : Int32)  : Met l yX12_spare (Cond.code yX12_spare cX12_spare 5 (some .int) :: TB) (RM 1 0 0) (va_Pc [.ref m0, .int a1, .int a2] (PRE D ad [(m0, .inr (10, [.ref mTa, .int 0, .int 0, .ref mSi, .ref mLe, .ref mCl, .ref mCs, .ref mRe, .int 0, .int 0, .int 0, .int 0, .int 0, .int 0, .int 0, .ref mOp, .int 0, .ref mSt, .int 0, .ref mWo, .ref mSa, .int 0, .ref mWa, .int 0, .ref mFa, .ref mQu, .ref mIs, .int 0, .int 0, .long 0, .ref mIm, .ref mIx, .ref mMa])), (mSa, .inl (kmSa, 133, .inl sd0))] [(kmSa, .int)] sz)) (k2_QcV (.int (-1))) 0 0 (fun _ => False) := by
  refine MET (y := yX12_spare) (cc := cX12_spare) (maxL := 5) (ret := (some .int)) (d := 1) (mc := 0) (ms := 0) (D := D) (ad := ad) (ws := [(m0, .inr (10, [.ref mTa, .int 0, .int 0, .ref mSi, .ref mLe, .ref mCl, .ref mCs, .ref mRe, .int 0, .int 0, .int 0, .int 0, .int 0, .int 0, .int 0, .ref mOp, .int 0, .ref mSt, .int 0, .ref mWo, .ref mSa, .int 0, .ref mWa, .int 0, .ref mFa, .ref mQu, .ref mIs, .int 0, .int 0, .long 0, .ref mIm, .ref mIx, .ref mMa])), (mSa, .inl (kmSa, 133, .inl sd0))]) (tys := [(kmSa, .int)]) (sz := sz) (av := [.ref m0, .int a1, .int a2]) (Qc := fun A => k2_QcV (.int (-1))) (fr := fun A => (fun _ => False)) (by decide) (Nat.le_of_ble_eq_true rfl) ?_
  intro p e s m below meth c ls A H hHe hx hb hr hml hown hts hlocks hnm hP hK hD hA hS hN hl
  have hown : s.vm.findClass "WrongHoleModel" = some m.cls := hown
  have hT : ∀ w ∈ TB, w.before ([.ref m0, .int a1, .int a2] : List Value).toArray s = true := fun w h => hts w (List.mem_cons_of_mem _ h)
  have hl : lv_has ls 5 [(0, .ref m0), (1, .int a1), (2, .int a2)] := hl
  have hP : va_P D vwCl [(m0, .inr (10, [.ref mTa, .int 0, .int 0, .ref mSi, .ref mLe, .ref mCl, .ref mCs, .ref mRe, .int 0, .int 0, .int 0, .int 0, .int 0, .int 0, .int 0, .ref mOp, .int 0, .ref mSt, .int 0, .ref mWo, .ref mSa, .int 0, .ref mWa, .int 0, .ref mFa, .ref mQu, .ref mIs, .int 0, .int 0, .long 0, .ref mIm, .ref mIx, .ref mMa])), (mSa, .inl (kmSa, 133, .inl sd0))] H := hP
  refine lv_aload_n hx hb dX12_spare_0 rfl (lv_at hl 0 rfl) ?_
  refine lv_iload_n hx hb dX12_spare_1 rfl (lv_at hl 1 rfl) ?_
  have hPc := hP.sub (ws' := [(m0, .inr (10, [.ref mTa, .int 0, .int 0, .ref mSi, .ref mLe, .ref mCl, .ref mCs, .ref mRe, .int 0, .int 0, .int 0, .int 0, .int 0, .int 0, .int 0, .ref mOp, .int 0, .ref mSt, .int 0, .ref mWo, .ref mSa, .int 0, .ref mWa, .int 0, .ref mFa, .ref mQu, .ref mIs, .int 0, .int 0, .long 0, .ref mIm, .ref mIx, .ref mMa])), (mSa, .inl (kmSa, 133, .inl sd0))]) [0, 1] rfl
  have hDc := hD.sub (ws' := [(m0, .inr (10, [.ref mTa, .int 0, .int 0, .ref mSi, .ref mLe, .ref mCl, .ref mCs, .ref mRe, .int 0, .int 0, .int 0, .int 0, .int 0, .int 0, .int 0, .ref mOp, .int 0, .ref mSt, .int 0, .ref mWo, .ref mSa, .int 0, .ref mWa, .int 0, .ref mFa, .ref mQu, .ref mIs, .int 0, .int 0, .long 0, .ref mIm, .ref mIx, .ref mMa])), (mSa, .inl (kmSa, 133, .inl sd0))]) [0, 1] (by decide) rfl
  have hKc := hK.sub (tys' := [(kmSa, .int)]) [0] rfl
  refine cl_V (W.runV (As := [.int a1]) (rest := []) ⟨hx, hb, hml, hown, hts⟩ (c_isButton l D ad H.size m0 mTa mSi mLe mCl mCs mRe mOp mSt mWo mSa mWa mFa mQu mIs mIm mIx mMa kmSa a1) ⟨callB_of 1 hts (gd_C qq_7_4) rfl rfl rfl (hT _ qq_1_9) (hT _ qq_7_1) (by decide +kernel) (rm_R rfl rfl), (hT _ qq_7_3), (hT _ qs_4_10)⟩ (pr_V hPc hKc hDc hN (ci := 10) (q0 := 0) rfl rfl) rfl rfl hl.1 rfl (lv_room (Nat.le_of_ble_eq_true rfl)) dX12_spare_2 ⟨Nat.le_of_ble_eq_true rfl, Nat.le_of_ble_eq_true rfl⟩) ?_
  refine lv_if_eq (tgt := 27) hx hb dX12_spare_5 (by decide) (fun _ => ?_) (fun c_1 => absurd (by decide) c_1)
  refine lv_iconst (v := (-1)) hx hb dX12_spare_27 (by decide) ?_
  exact W.iret (v := (-1)) hx hb hr (fun t9 ht9 hW9 => ⟨rfl, ht9.trans hHe⟩) (fun _ h9 => absurd h9 List.not_mem_nil) dX12_spare_28
theorem dX12_ways_0 : decode cX12_ways 0 = .ok (.aload_n 0, 1) := by decide +kernel
theorem dX12_ways_1 : decode cX12_ways 1 = .ok (.invokevirtual 397, 3) := by decide +kernel
theorem dX12_ways_4 : decode cX12_ways 4 = .ok (.ifCond .eq 15, 3) := by decide +kernel
theorem dX12_ways_19 : decode cX12_ways 19 = .ok (.iconst (-1), 1) := by decide +kernel
theorem dX12_ways_20 : decode cX12_ways 20 = .ok (.ireturn, 1) := by decide +kernel
set_option maxHeartbeats 4000000 in
set_option maxRecDepth 100000 in
theorem c_m_ways (l : Launch) (D : va_G) (ad : Nat → Nat) (sz : Nat) (m0 : Nat) (mTa : Nat) (mSi : Nat) (mLe : Nat) (mCl : Nat) (mCs : Nat) (mRe : Nat) (mOp : Nat) (mSt : Nat) (mWo : Nat) (mSa : Nat) (mWa : Nat) (mFa : Nat) (mQu : Nat) (mIs : Nat) (mIm : Nat) (mIx : Nat) (mMa : Nat) (kmSa : ClassId) (a1 : Int32)  : Met l yX12_ways (Cond.code yX12_ways cX12_ways 6 (some .int) :: TB) (RM 1 0 0) (va_Pc [.ref m0, .int a1] (PRE D ad [(m0, .inr (10, [.ref mTa, .int 0, .int 0, .ref mSi, .ref mLe, .ref mCl, .ref mCs, .ref mRe, .int 0, .int 0, .int 0, .int 0, .int 0, .int 0, .int 0, .ref mOp, .int 0, .ref mSt, .int 0, .ref mWo, .ref mSa, .int 0, .ref mWa, .int 0, .ref mFa, .ref mQu, .ref mIs, .int 0, .int 0, .long 0, .ref mIm, .ref mIx, .ref mMa])), (mSa, .inl (kmSa, 133, .inl sd0))] [(kmSa, .int)] sz)) (k2_QcV (.int (-1))) 0 0 (fun _ => False) := by
  refine MET (y := yX12_ways) (cc := cX12_ways) (maxL := 6) (ret := (some .int)) (d := 1) (mc := 0) (ms := 0) (D := D) (ad := ad) (ws := [(m0, .inr (10, [.ref mTa, .int 0, .int 0, .ref mSi, .ref mLe, .ref mCl, .ref mCs, .ref mRe, .int 0, .int 0, .int 0, .int 0, .int 0, .int 0, .int 0, .ref mOp, .int 0, .ref mSt, .int 0, .ref mWo, .ref mSa, .int 0, .ref mWa, .int 0, .ref mFa, .ref mQu, .ref mIs, .int 0, .int 0, .long 0, .ref mIm, .ref mIx, .ref mMa])), (mSa, .inl (kmSa, 133, .inl sd0))]) (tys := [(kmSa, .int)]) (sz := sz) (av := [.ref m0, .int a1]) (Qc := fun A => k2_QcV (.int (-1))) (fr := fun A => (fun _ => False)) (by decide) (Nat.le_of_ble_eq_true rfl) ?_
  intro p e s m below meth c ls A H hHe hx hb hr hml hown hts hlocks hnm hP hK hD hA hS hN hl
  have hown : s.vm.findClass "WrongHoleModel" = some m.cls := hown
  have hT : ∀ w ∈ TB, w.before ([.ref m0, .int a1] : List Value).toArray s = true := fun w h => hts w (List.mem_cons_of_mem _ h)
  have hl : lv_has ls 6 [(0, .ref m0), (1, .int a1)] := hl
  have hP : va_P D vwCl [(m0, .inr (10, [.ref mTa, .int 0, .int 0, .ref mSi, .ref mLe, .ref mCl, .ref mCs, .ref mRe, .int 0, .int 0, .int 0, .int 0, .int 0, .int 0, .int 0, .ref mOp, .int 0, .ref mSt, .int 0, .ref mWo, .ref mSa, .int 0, .ref mWa, .int 0, .ref mFa, .ref mQu, .ref mIs, .int 0, .int 0, .long 0, .ref mIm, .ref mIx, .ref mMa])), (mSa, .inl (kmSa, 133, .inl sd0))] H := hP
  refine lv_aload_n hx hb dX12_ways_0 rfl (lv_at hl 0 rfl) ?_
  have hPc := hP.sub (ws' := [(m0, .inr (10, [.ref mTa, .int 0, .int 0, .ref mSi, .ref mLe, .ref mCl, .ref mCs, .ref mRe, .int 0, .int 0, .int 0, .int 0, .int 0, .int 0, .int 0, .ref mOp, .int 0, .ref mSt, .int 0, .ref mWo, .ref mSa, .int 0, .ref mWa, .int 0, .ref mFa, .ref mQu, .ref mIs, .int 0, .int 0, .long 0, .ref mIm, .ref mIx, .ref mMa])), (mSa, .inl (kmSa, 133, .inl sd0))]) [0, 1] rfl
  have hDc := hD.sub (ws' := [(m0, .inr (10, [.ref mTa, .int 0, .int 0, .ref mSi, .ref mLe, .ref mCl, .ref mCs, .ref mRe, .int 0, .int 0, .int 0, .int 0, .int 0, .int 0, .int 0, .ref mOp, .int 0, .ref mSt, .int 0, .ref mWo, .ref mSa, .int 0, .ref mWa, .int 0, .ref mFa, .ref mQu, .ref mIs, .int 0, .int 0, .long 0, .ref mIm, .ref mIx, .ref mMa])), (mSa, .inl (kmSa, 133, .inl sd0))]) [0, 1] (by decide) rfl
  have hKc := hK.sub (tys' := [(kmSa, .int)]) [0] rfl
  refine cl_V (W.runV (As := []) (rest := []) ⟨hx, hb, hml, hown, hts⟩ (c_isLift l D ad H.size m0 mTa mSi mLe mCl mCs mRe mOp mSt mWo mSa mWa mFa mQu mIs mIm mIx mMa kmSa) ⟨callB_of 0 hts (gd_C qq_7_46) rfl rfl rfl (hT _ qq_1_9) (hT _ qq_7_43) (by decide +kernel) (rm_R rfl rfl), (hT _ qq_7_45), (hT _ qs_5_2)⟩ (pr_V hPc hKc hDc hN (ci := 10) (q0 := 0) rfl rfl) rfl rfl hl.1 rfl (lv_room (Nat.le_of_ble_eq_true rfl)) dX12_ways_1 ⟨Nat.le_of_ble_eq_true rfl, Nat.le_of_ble_eq_true rfl⟩) ?_
  refine lv_if_eq (tgt := 19) hx hb dX12_ways_4 (by decide) (fun _ => ?_) (fun c_1 => absurd (by decide) c_1)
  refine lv_iconst (v := (-1)) hx hb dX12_ways_19 (by decide) ?_
  exact W.iret (v := (-1)) hx hb hr (fun t9 ht9 hW9 => ⟨rfl, ht9.trans hHe⟩) (fun _ h9 => absurd h9 List.not_mem_nil) dX12_ways_20
theorem dX12_dressed_0 : decode cX12_dressed 0 = .ok (.aload_n 0, 1) := by decide +kernel
theorem dX12_dressed_1 : decode cX12_dressed 1 = .ok (.invokevirtual 397, 3) := by decide +kernel
theorem dX12_dressed_4 : decode cX12_dressed 4 = .ok (.ifCond .eq 39, 3) := by decide +kernel
theorem dX12_dressed_43 : decode cX12_dressed 43 = .ok (.iconst (-1), 1) := by decide +kernel
theorem dX12_dressed_44 : decode cX12_dressed 44 = .ok (.ireturn, 1) := by decide +kernel
set_option maxHeartbeats 4000000 in
set_option maxRecDepth 100000 in
theorem c_m_dressed (l : Launch) (D : va_G) (ad : Nat → Nat) (sz : Nat) (m0 : Nat) (mTa : Nat) (mSi : Nat) (mLe : Nat) (mCl : Nat) (mCs : Nat) (mRe : Nat) (mOp : Nat) (mSt : Nat) (mWo : Nat) (mSa : Nat) (mWa : Nat) (mFa : Nat) (mQu : Nat) (mIs : Nat) (mIm : Nat) (mIx : Nat) (mMa : Nat) (kmSa : ClassId) (a1 : Int32) (a2 : Int32) (a3 : Int32)  : Met l yX12_dressed (Cond.code yX12_dressed cX12_dressed 12 (some .int) :: TB) (RM 1 0 0) (va_Pc [.ref m0, .int a1, .int a2, .int a3] (PRE D ad [(m0, .inr (10, [.ref mTa, .int 0, .int 0, .ref mSi, .ref mLe, .ref mCl, .ref mCs, .ref mRe, .int 0, .int 0, .int 0, .int 0, .int 0, .int 0, .int 0, .ref mOp, .int 0, .ref mSt, .int 0, .ref mWo, .ref mSa, .int 0, .ref mWa, .int 0, .ref mFa, .ref mQu, .ref mIs, .int 0, .int 0, .long 0, .ref mIm, .ref mIx, .ref mMa])), (mSa, .inl (kmSa, 133, .inl sd0))] [(kmSa, .int)] sz)) (k2_QcV (.int (-1))) 0 0 (fun _ => False) := by
  refine MET (y := yX12_dressed) (cc := cX12_dressed) (maxL := 12) (ret := (some .int)) (d := 1) (mc := 0) (ms := 0) (D := D) (ad := ad) (ws := [(m0, .inr (10, [.ref mTa, .int 0, .int 0, .ref mSi, .ref mLe, .ref mCl, .ref mCs, .ref mRe, .int 0, .int 0, .int 0, .int 0, .int 0, .int 0, .int 0, .ref mOp, .int 0, .ref mSt, .int 0, .ref mWo, .ref mSa, .int 0, .ref mWa, .int 0, .ref mFa, .ref mQu, .ref mIs, .int 0, .int 0, .long 0, .ref mIm, .ref mIx, .ref mMa])), (mSa, .inl (kmSa, 133, .inl sd0))]) (tys := [(kmSa, .int)]) (sz := sz) (av := [.ref m0, .int a1, .int a2, .int a3]) (Qc := fun A => k2_QcV (.int (-1))) (fr := fun A => (fun _ => False)) (by decide) (Nat.le_of_ble_eq_true rfl) ?_
  intro p e s m below meth c ls A H hHe hx hb hr hml hown hts hlocks hnm hP hK hD hA hS hN hl
  have hown : s.vm.findClass "WrongHoleModel" = some m.cls := hown
  have hT : ∀ w ∈ TB, w.before ([.ref m0, .int a1, .int a2, .int a3] : List Value).toArray s = true := fun w h => hts w (List.mem_cons_of_mem _ h)
  have hl : lv_has ls 12 [(0, .ref m0), (1, .int a1), (2, .int a2), (3, .int a3)] := hl
  have hP : va_P D vwCl [(m0, .inr (10, [.ref mTa, .int 0, .int 0, .ref mSi, .ref mLe, .ref mCl, .ref mCs, .ref mRe, .int 0, .int 0, .int 0, .int 0, .int 0, .int 0, .int 0, .ref mOp, .int 0, .ref mSt, .int 0, .ref mWo, .ref mSa, .int 0, .ref mWa, .int 0, .ref mFa, .ref mQu, .ref mIs, .int 0, .int 0, .long 0, .ref mIm, .ref mIx, .ref mMa])), (mSa, .inl (kmSa, 133, .inl sd0))] H := hP
  refine lv_aload_n hx hb dX12_dressed_0 rfl (lv_at hl 0 rfl) ?_
  have hPc := hP.sub (ws' := [(m0, .inr (10, [.ref mTa, .int 0, .int 0, .ref mSi, .ref mLe, .ref mCl, .ref mCs, .ref mRe, .int 0, .int 0, .int 0, .int 0, .int 0, .int 0, .int 0, .ref mOp, .int 0, .ref mSt, .int 0, .ref mWo, .ref mSa, .int 0, .ref mWa, .int 0, .ref mFa, .ref mQu, .ref mIs, .int 0, .int 0, .long 0, .ref mIm, .ref mIx, .ref mMa])), (mSa, .inl (kmSa, 133, .inl sd0))]) [0, 1] rfl
  have hDc := hD.sub (ws' := [(m0, .inr (10, [.ref mTa, .int 0, .int 0, .ref mSi, .ref mLe, .ref mCl, .ref mCs, .ref mRe, .int 0, .int 0, .int 0, .int 0, .int 0, .int 0, .int 0, .ref mOp, .int 0, .ref mSt, .int 0, .ref mWo, .ref mSa, .int 0, .ref mWa, .int 0, .ref mFa, .ref mQu, .ref mIs, .int 0, .int 0, .long 0, .ref mIm, .ref mIx, .ref mMa])), (mSa, .inl (kmSa, 133, .inl sd0))]) [0, 1] (by decide) rfl
  have hKc := hK.sub (tys' := [(kmSa, .int)]) [0] rfl
  refine cl_V (W.runV (As := []) (rest := []) ⟨hx, hb, hml, hown, hts⟩ (c_isLift l D ad H.size m0 mTa mSi mLe mCl mCs mRe mOp mSt mWo mSa mWa mFa mQu mIs mIm mIx mMa kmSa) ⟨callB_of 0 hts (gd_C qq_7_46) rfl rfl rfl (hT _ qq_1_9) (hT _ qq_7_43) (by decide +kernel) (rm_R rfl rfl), (hT _ qq_7_45), (hT _ qs_5_2)⟩ (pr_V hPc hKc hDc hN (ci := 10) (q0 := 0) rfl rfl) rfl rfl hl.1 rfl (lv_room (Nat.le_of_ble_eq_true rfl)) dX12_dressed_1 ⟨Nat.le_of_ble_eq_true rfl, Nat.le_of_ble_eq_true rfl⟩) ?_
  refine lv_if_eq (tgt := 43) hx hb dX12_dressed_4 (by decide) (fun _ => ?_) (fun c_1 => absurd (by decide) c_1)
  refine lv_iconst (v := (-1)) hx hb dX12_dressed_43 (by decide) ?_
  exact W.iret (v := (-1)) hx hb hr (fun t9 ht9 hW9 => ⟨rfl, ht9.trans hHe⟩) (fun _ h9 => absurd h9 List.not_mem_nil) dX12_dressed_44
